/-! the reference's fact and its constructor -/
theorem nin_int {x : Int32} {a n : Nat} (ha : a < 2 ^ 31) (hn : n < 2 ^ 31) (h : ¬ (nI a ≤ x ∧ x ≤ nI n)) : x.toInt < (a : Int) ∨ (n : Int) < x.toInt := by
  rw [Int32.le_iff_toInt_le, Int32.le_iff_toInt_le, nI_toInt ha, nI_toInt hn] at h; omega
theorem in_nat {a b w : Nat} (hb : b < 2 ^ 31) (hw : w < 2 ^ 31) (ha : a < 2 ^ 31) : (nI a ≤ nI w ∧ nI w ≤ nI b) ↔ (a ≤ w ∧ w ≤ b) := by
  rw [nI_leI ha hw, nI_leI hw hb]
def trV (F : Nat → Nat → Int32) (g d : Nat) : Int32 := if g = 2 then F 3 d else if g = 3 then F 4 d else if g = 4 then F 5 d else if g = 5 then (if F 6 d = (-2) then (-3) else F 6 d + nI 1) else (-2)
/-- what fact answers at 100 g + d -/
def fcV (F : Nat → Nat → Int32) (cw g d : Nat) : Int32 := if g = 1 then (if d < cw then (if d < 16 ∧ ¬ F 2 d = 0 then nI 1 else nI 0) else (-2)) else if g = 6 then (if d < 6 then F 8 d else (-2)) else if d < 16 ∧ ¬ F 2 d = 0 then trV F g d else (-2)
theorem fcV_bad {F : Nat → Nat → Int32} {cw g d : Nat} (h1 : g = 1 → cw ≤ d) (h6 : g = 6 → 6 ≤ d) (h : d < 16 ∧ ¬ F 2 d = 0 → ¬ (2 ≤ g ∧ g ≤ 5)) : fcV F cw g d = (-2) := by
  unfold fcV
  by_cases e1 : g = 1
  · rw [if_pos e1, if_neg (by have := h1 e1; omega)]
  · rw [if_neg e1]
    by_cases e6 : g = 6
    · rw [if_pos e6, if_neg (by have := h6 e6; omega)]
    · rw [if_neg e6]
      split
      · rename_i hd
        have := h hd
        unfold trV
        rw [if_neg (by omega), if_neg (by omega), if_neg (by omega), if_neg (by omega)]
      · rfl
theorem fcV_tr {F : Nat → Nat → Int32} {cw g d : Nat} (h1 : ¬ g = 1) (h6 : ¬ g = 6) (hd : d < 16 ∧ ¬ F 2 d = 0) : fcV F cw g d = trV F g d := by
  unfold fcV; rw [if_neg h1, if_neg h6, if_pos hd]
set_option maxHeartbeats 4000000 in
set_option maxRecDepth 100000 in
theorem c_X5_fact_0 (l : Launch) (D : va_G) (cA : Nat → ClassId) (ar : Nat → Nat) (M : Nat → Nat → Int32)  : Cr l D cA yX5_fact cX5_fact 4 (some .int) 1 ([.ref (ar 100), .int (nI 0)] : List Value) (wR cA ar M) (fun r : Option Value => r = some (.int (nI (thc (slc 4 M) 16)))) := by
  refine x_met (by decide +kernel) rfl (Nat.le_of_ble_eq_true rfl) ?_
  intro xp xe xs xm xbl xme xco F hnm
  refine x_lv [(0, .ref (ar 100)), (1, .int (nI 0))] [0, 1] rfl ?_
  refine x_iload_n F 1 dX5_fact_0 rfl ?_
  refine x_iconst F (nI 0) dX5_fact_1 (by decide +kernel) ?_
  refine x_iconst F (nI 3) dX5_fact_2 (by decide +kernel) ?_
  refine x_callSr F [] [] (c_X5_in l D cA (nI 0) (nI 0) (nI 3)) mwX5_in wmX5_101 rfl rfl (Nat.le_of_ble_eq_true rfl) ⟨by decide, by decide⟩ ⟨by show _ ≤ 0; omega, by show _ ≤ 0; omega⟩ rfl (by decide) dX5_fact_3 (fun r1 hp2 => ?_)
  subst hp2
  refine x_if_eq F 15 dX5_fact_6 (by decide) (fun h6 => ?_) (fun h6 => ?_)
  · exact absurd (show nI 0 ≤ nI 0 ∧ nI 0 ≤ nI 3 by decide +kernel) (bz_0.mp h6)
  · refine x_aload_n F 0 dX5_fact_9 rfl ?_
    refine x_iload_n F 1 dX5_fact_10 rfl ?_
    refine x_callVr F [] [0, 1, 2, 3, 4, 5, 6, 7, 8, 9, 10, 11, 12, 13, 14, 15, 16, 17, 18, 19, 20, 21, 22, 23, 24, 25] (c_X5_ofAll_0 l D cA ar M) mwX5_ofAll wmX5_171 rfl (q0 := 0) rfl rfl rfl (Nat.le_of_ble_eq_true rfl) ⟨by decide, by decide⟩ ⟨by show _ ≤ 0; omega, by show _ ≤ 0; omega⟩ rfl (by decide) dX5_fact_11 (fun r3 hp4 => ?_)
    subst hp4
    exact x_iret F () (rfl) (rfl) (by omega) (by omega) dX5_fact_14

set_option maxHeartbeats 4000000 in
set_option maxRecDepth 100000 in
theorem c_X5_fact_1 (l : Launch) (D : va_G) (cA : Nat → ClassId) (ar : Nat → Nat) (M : Nat → Nat → Int32)  : Cr l D cA yX5_fact cX5_fact 4 (some .int) 1 ([.ref (ar 100), .int (nI 1)] : List Value) (wR cA ar M) (fun r : Option Value => r = some (.int (M 13 0))) := by
  refine x_met (by decide +kernel) rfl (Nat.le_of_ble_eq_true rfl) ?_
  intro xp xe xs xm xbl xme xco F hnm
  refine x_lv [(0, .ref (ar 100)), (1, .int (nI 1))] [0, 1] rfl ?_
  refine x_iload_n F 1 dX5_fact_0 rfl ?_
  refine x_iconst F (nI 0) dX5_fact_1 (by decide +kernel) ?_
  refine x_iconst F (nI 3) dX5_fact_2 (by decide +kernel) ?_
  refine x_callSr F [] [] (c_X5_in l D cA (nI 1) (nI 0) (nI 3)) mwX5_in wmX5_101 rfl rfl (Nat.le_of_ble_eq_true rfl) ⟨by decide, by decide⟩ ⟨by show _ ≤ 0; omega, by show _ ≤ 0; omega⟩ rfl (by decide) dX5_fact_3 (fun r1 hp2 => ?_)
  subst hp2
  refine x_if_eq F 15 dX5_fact_6 (by decide) (fun h6 => ?_) (fun h6 => ?_)
  · exact absurd (show nI 0 ≤ nI 1 ∧ nI 1 ≤ nI 3 by decide +kernel) (bz_0.mp h6)
  · refine x_aload_n F 0 dX5_fact_9 rfl ?_
    refine x_iload_n F 1 dX5_fact_10 rfl ?_
    refine x_callVr F [] [0, 1, 2, 3, 4, 5, 6, 7, 8, 9, 10, 11, 12, 13, 14, 15, 16, 17, 18, 19, 20, 21, 22, 23, 24, 25] (c_X5_ofAll_1 l D cA ar M) mwX5_ofAll wmX5_171 rfl (q0 := 0) rfl rfl rfl (Nat.le_of_ble_eq_true rfl) ⟨by decide, by decide⟩ ⟨by show _ ≤ 0; omega, by show _ ≤ 0; omega⟩ rfl (by decide) dX5_fact_11 (fun r3 hp4 => ?_)
    subst hp4
    exact x_iret F () (rfl) (rfl) (by omega) (by omega) dX5_fact_14

set_option maxHeartbeats 4000000 in
set_option maxRecDepth 100000 in
theorem c_X5_fact_2 (l : Launch) (D : va_G) (cA : Nat → ClassId) (ar : Nat → Nat) (M : Nat → Nat → Int32)  : Cr l D cA yX5_fact cX5_fact 4 (some .int) 1 ([.ref (ar 100), .int (nI 2)] : List Value) (wR cA ar M) (fun r : Option Value => r = some (.int (M 0 0))) := by
  refine x_met (by decide +kernel) rfl (Nat.le_of_ble_eq_true rfl) ?_
  intro xp xe xs xm xbl xme xco F hnm
  refine x_lv [(0, .ref (ar 100)), (1, .int (nI 2))] [0, 1] rfl ?_
  refine x_iload_n F 1 dX5_fact_0 rfl ?_
  refine x_iconst F (nI 0) dX5_fact_1 (by decide +kernel) ?_
  refine x_iconst F (nI 3) dX5_fact_2 (by decide +kernel) ?_
  refine x_callSr F [] [] (c_X5_in l D cA (nI 2) (nI 0) (nI 3)) mwX5_in wmX5_101 rfl rfl (Nat.le_of_ble_eq_true rfl) ⟨by decide, by decide⟩ ⟨by show _ ≤ 0; omega, by show _ ≤ 0; omega⟩ rfl (by decide) dX5_fact_3 (fun r1 hp2 => ?_)
  subst hp2
  refine x_if_eq F 15 dX5_fact_6 (by decide) (fun h6 => ?_) (fun h6 => ?_)
  · exact absurd (show nI 0 ≤ nI 2 ∧ nI 2 ≤ nI 3 by decide +kernel) (bz_0.mp h6)
  · refine x_aload_n F 0 dX5_fact_9 rfl ?_
    refine x_iload_n F 1 dX5_fact_10 rfl ?_
    refine x_callVr F [] [0, 1, 2, 3, 4, 5, 6, 7, 8, 9, 10, 11, 12, 13, 14, 15, 16, 17, 18, 19, 20, 21, 22, 23, 24, 25] (c_X5_ofAll_2 l D cA ar M) mwX5_ofAll wmX5_171 rfl (q0 := 0) rfl rfl rfl (Nat.le_of_ble_eq_true rfl) ⟨by decide, by decide⟩ ⟨by show _ ≤ 0; omega, by show _ ≤ 0; omega⟩ rfl (by decide) dX5_fact_11 (fun r3 hp4 => ?_)
    subst hp4
    exact x_iret F () (rfl) (rfl) (by omega) (by omega) dX5_fact_14

set_option maxHeartbeats 4000000 in
set_option maxRecDepth 100000 in
theorem c_X5_fact_3 (l : Launch) (D : va_G) (cA : Nat → ClassId) (ar : Nat → Nat) (M : Nat → Nat → Int32)  : Cr l D cA yX5_fact cX5_fact 4 (some .int) 1 ([.ref (ar 100), .int (nI 3)] : List Value) (wR cA ar M) (fun r : Option Value => r = some (.int (M 17 0))) := by
  refine x_met (by decide +kernel) rfl (Nat.le_of_ble_eq_true rfl) ?_
  intro xp xe xs xm xbl xme xco F hnm
  refine x_lv [(0, .ref (ar 100)), (1, .int (nI 3))] [0, 1] rfl ?_
  refine x_iload_n F 1 dX5_fact_0 rfl ?_
  refine x_iconst F (nI 0) dX5_fact_1 (by decide +kernel) ?_
  refine x_iconst F (nI 3) dX5_fact_2 (by decide +kernel) ?_
  refine x_callSr F [] [] (c_X5_in l D cA (nI 3) (nI 0) (nI 3)) mwX5_in wmX5_101 rfl rfl (Nat.le_of_ble_eq_true rfl) ⟨by decide, by decide⟩ ⟨by show _ ≤ 0; omega, by show _ ≤ 0; omega⟩ rfl (by decide) dX5_fact_3 (fun r1 hp2 => ?_)
  subst hp2
  refine x_if_eq F 15 dX5_fact_6 (by decide) (fun h6 => ?_) (fun h6 => ?_)
  · exact absurd (show nI 0 ≤ nI 3 ∧ nI 3 ≤ nI 3 by decide +kernel) (bz_0.mp h6)
  · refine x_aload_n F 0 dX5_fact_9 rfl ?_
    refine x_iload_n F 1 dX5_fact_10 rfl ?_
    refine x_callVr F [] [0, 1, 2, 3, 4, 5, 6, 7, 8, 9, 10, 11, 12, 13, 14, 15, 16, 17, 18, 19, 20, 21, 22, 23, 24, 25] (c_X5_ofAll_3 l D cA ar M) mwX5_ofAll wmX5_171 rfl (q0 := 0) rfl rfl rfl (Nat.le_of_ble_eq_true rfl) ⟨by decide, by decide⟩ ⟨by show _ ≤ 0; omega, by show _ ≤ 0; omega⟩ rfl (by decide) dX5_fact_11 (fun r3 hp4 => ?_)
    subst hp4
    exact x_iret F () (rfl) (rfl) (by omega) (by omega) dX5_fact_14

set_option maxHeartbeats 4000000 in
set_option maxRecDepth 100000 in
theorem c_X5_fact_b (l : Launch) (D : va_G) (cA : Nat → ClassId) (ar : Nat → Nat) (M : Nat → Nat → Int32) (p1 : Int32) (h100 : ¬ nI 100 ≤ p1) (hb : ¬ (nI 0 ≤ p1 ∧ p1 ≤ nI 3)) : Cr l D cA yX5_fact cX5_fact 4 (some .int) 1 ([.ref (ar 100), .int p1] : List Value) (wR cA ar M) (fun r : Option Value => r = some (.int (-2))) := by
  refine x_met (by decide +kernel) rfl (Nat.le_of_ble_eq_true rfl) ?_
  intro xp xe xs xm xbl xme xco F hnm
  refine x_lv [(0, .ref (ar 100)), (1, .int p1)] [0, 1] rfl ?_
  refine x_iload_n F 1 dX5_fact_0 rfl ?_
  refine x_iconst F (nI 0) dX5_fact_1 (by decide +kernel) ?_
  refine x_iconst F (nI 3) dX5_fact_2 (by decide +kernel) ?_
  refine x_callSr F [] [] (c_X5_in l D cA p1 (nI 0) (nI 3)) mwX5_in wmX5_101 rfl rfl (Nat.le_of_ble_eq_true rfl) ⟨by decide, by decide⟩ ⟨by show _ ≤ 0; omega, by show _ ≤ 0; omega⟩ rfl (by decide) dX5_fact_3 (fun r1 hp2 => ?_)
  subst hp2
  refine x_if_eq F 15 dX5_fact_6 (by decide) (fun h6 => ?_) (fun h6 => ?_)
  · refine x_iload_n F 1 dX5_fact_15 rfl ?_
    refine x_sipush F (nI 600) dX5_fact_16 (by decide +kernel) ?_
    refine x_sipush F (nI 605) dX5_fact_19 (by decide +kernel) ?_
    refine x_callSr F [] [] (c_X5_in l D cA p1 (nI 600) (nI 605)) mwX5_in wmX5_101 rfl rfl (Nat.le_of_ble_eq_true rfl) ⟨by decide, by decide⟩ ⟨by show _ ≤ 0; omega, by show _ ≤ 0; omega⟩ rfl (by decide) dX5_fact_22 (fun r3 hp4 => ?_)
    subst hp4
    refine x_if_eq F 42 dX5_fact_25 (by decide) (fun h25 => ?_) (fun h25 => ?_)
    · refine x_iload_n F 1 dX5_fact_42 rfl ?_
      refine x_bipush F (nI 100) dX5_fact_43 (by decide +kernel) ?_
      refine x_irem F (p1 - p1 / (nI 100) * (nI 100)) dX5_fact_45 (by decide) rfl ?_
      refine x_istore_n F [(2, .int (p1 - p1 / (nI 100) * (nI 100))), (0, .ref (ar 100)), (1, .int p1)] dX5_fact_46 (by decide) rfl ?_
      refine x_iload_n F 2 dX5_fact_47 rfl ?_
      refine x_bipush F (nI 100) dX5_fact_48 (by decide +kernel) ?_
      refine x_sipush F (nI 599) dX5_fact_50 (by decide +kernel) ?_
      refine x_callSr F [] [] (c_X5_in l D cA p1 (nI 100) (nI 599)) mwX5_in wmX5_101 rfl rfl (Nat.le_of_ble_eq_true rfl) ⟨by decide, by decide⟩ ⟨by show _ ≤ 0; omega, by show _ ≤ 0; omega⟩ rfl (by decide) dX5_fact_53 (fun r5 hp6 => ?_)
      subst hp6
      refine x_if_eq F 73 dX5_fact_56 (by decide) (fun h56 => ?_) (fun h56 => ?_)
      · refine x_bipush F (-2) dX5_fact_73 (by decide +kernel) ?_
        exact x_iret F () (rfl) (rfl) (by omega) (by omega) dX5_fact_75
      · exact absurd (bz_n0.mp h56).1 h100
    · exact absurd (Int32.le_trans (show nI 100 ≤ nI 600 by decide +kernel) (bz_n0.mp h25).1) h100
  · exact absurd (bz_n0.mp h6) hb

set_option maxHeartbeats 4000000 in
set_option maxRecDepth 100000 in
theorem c_X5_fact_w (l : Launch) (D : va_G) (cA : Nat → ClassId) (ar : Nat → Nat) (M : Nat → Nat → Int32) (w cw : Nat) (hw1 : 100 ≤ w) (hw2 : w < 2 ^ 31) (hcw : M 13 0 = nI cw) (hc16 : cw ≤ 16) (hth : ∀ d, d < 16 → ¬ M 6 (64 + d) = 0 → d < cw) : Cr l D cA yX5_fact cX5_fact 4 (some .int) 1 ([.ref (ar 100), .int (nI w)] : List Value) (wR cA ar M) (fun r : Option Value => r = some (.int (fcV (slc 4 M) cw (w / 100) (w % 100)))) := by
  refine x_met (by decide +kernel) rfl (Nat.le_of_ble_eq_true rfl) ?_
  intro xp xe xs xm xbl xme xco F hnm
  refine x_lv [(0, .ref (ar 100)), (1, .int (nI w))] [0, 1] rfl ?_
  refine x_iload_n F 1 dX5_fact_0 rfl ?_
  refine x_iconst F (nI 0) dX5_fact_1 (by decide +kernel) ?_
  refine x_iconst F (nI 3) dX5_fact_2 (by decide +kernel) ?_
  refine x_callSr F [] [] (c_X5_in l D cA (nI w) (nI 0) (nI 3)) mwX5_in wmX5_101 rfl rfl (Nat.le_of_ble_eq_true rfl) ⟨by decide, by decide⟩ ⟨by show _ ≤ 0; omega, by show _ ≤ 0; omega⟩ rfl (by decide) dX5_fact_3 (fun r1 hp2 => ?_)
  subst hp2
  refine x_if_eq F 15 dX5_fact_6 (by decide) (fun h6 => ?_) (fun h6 => ?_)
  · refine x_iload_n F 1 dX5_fact_15 rfl ?_
    refine x_sipush F (nI 600) dX5_fact_16 (by decide +kernel) ?_
    refine x_sipush F (nI 605) dX5_fact_19 (by decide +kernel) ?_
    refine x_callSr F [] [] (c_X5_in l D cA (nI w) (nI 600) (nI 605)) mwX5_in wmX5_101 rfl rfl (Nat.le_of_ble_eq_true rfl) ⟨by decide, by decide⟩ ⟨by show _ ≤ 0; omega, by show _ ≤ 0; omega⟩ rfl (by decide) dX5_fact_22 (fun r3 hp4 => ?_)
    subst hp4
    refine x_if_eq F 42 dX5_fact_25 (by decide) (fun h25 => ?_) (fun h25 => ?_)
    · have h25n : ¬ (600 ≤ w ∧ w ≤ 605) := fun z => bz_0.mp h25 ((in_nat (by decide) hw2 (by decide)).mpr z)
      refine x_iload_n F 1 dX5_fact_42 rfl ?_
      refine x_bipush F (nI 100) dX5_fact_43 (by decide +kernel) ?_
      refine x_irem F ((nI w) - (nI w) / (nI 100) * (nI 100)) dX5_fact_45 (by decide) rfl ?_
      refine x_top (nI (w % 100)) (pk_rem hw2 (by decide) (by decide)) ?_
      refine x_istore_n F [(2, .int (nI (w % 100))), (0, .ref (ar 100)), (1, .int (nI w))] dX5_fact_46 (by decide) rfl ?_
      refine x_iload_n F 2 dX5_fact_47 rfl ?_
      refine x_bipush F (nI 100) dX5_fact_48 (by decide +kernel) ?_
      refine x_sipush F (nI 599) dX5_fact_50 (by decide +kernel) ?_
      refine x_callSr F [] [] (c_X5_in l D cA (nI w) (nI 100) (nI 599)) mwX5_in wmX5_101 rfl rfl (Nat.le_of_ble_eq_true rfl) ⟨by decide, by decide⟩ ⟨by show _ ≤ 0; omega, by show _ ≤ 0; omega⟩ rfl (by decide) dX5_fact_53 (fun r5 hp6 => ?_)
      subst hp6
      refine x_if_eq F 73 dX5_fact_56 (by decide) (fun h56 => ?_) (fun h56 => ?_)
      · have h56n : ¬ (100 ≤ w ∧ w ≤ 599) := fun z => bz_0.mp h56 ((in_nat (by decide) hw2 (by decide)).mpr z)
        refine x_bipush F (-2) dX5_fact_73 (by decide +kernel) ?_
        exact x_iret F () (congrArg (fun z => some (Value.int z)) (show (-2) = fcV (slc 4 M) cw (w / 100) (w % 100) from Eq.symm (fcV_bad (by omega) (by omega) (by omega)))) (rfl) (by omega) (by omega) dX5_fact_75
      · have h56n : 100 ≤ w ∧ w ≤ 599 := (in_nat (by decide) hw2 (by decide)).mp (bz_n0.mp h56)
        refine x_iload_n F 0 dX5_fact_59 rfl ?_
        refine x_bipush F (nI 15) dX5_fact_60 (by decide +kernel) ?_
        refine x_icmp_gt F 73 dX5_fact_62 (by decide) (fun h62 => ?_) (fun h62 => ?_)
        · have h62n : 15 < (w % 100) := (nI_ltI (by decide) (by omega)).mp h62
          refine x_bipush F (-2) dX5_fact_73 (by decide +kernel) ?_
          exact x_iret F () (congrArg (fun z => some (Value.int z)) (show (-2) = fcV (slc 4 M) cw (w / 100) (w % 100) from Eq.symm (fcV_bad (by omega) (by omega) (by omega)))) (rfl) (by omega) (by omega) dX5_fact_75
        · have h62n : ¬ 15 < (w % 100) := fun z => h62 ((nI_ltI (by decide) (by omega)).mpr z)
          refine x_iload_n F 0 dX5_fact_65 rfl ?_
          refine x_aload_n F 1 dX5_fact_66 rfl ?_
          refine x_get F inUX5 0 13 rfl rfl (by decide) wfX5_108 rfl dX5_fact_67 ?_
          refine x_top (nI cw) (hcw) ?_
          refine x_icmp_lt F 76 dX5_fact_70 (by decide) (fun h70 => ?_) (fun h70 => ?_)
          · have h70n : (w % 100) < cw := (nI_ltI (by omega) (by omega)).mp h70
            refine x_bipush F (nI 64) dX5_fact_76 (by decide +kernel) ?_
            refine x_iload_n F 0 dX5_fact_78 rfl ?_
            refine x_iadd F (nI (64 + (w % 100))) dX5_fact_79 (nI_add _ _) ?_
            refine x_istore_n F [(3, .int (nI (64 + (w % 100)))), (2, .int (nI (w % 100))), (0, .ref (ar 100)), (1, .int (nI w))] dX5_fact_80 (by decide) rfl ?_
            refine x_iload_n F 3 dX5_fact_81 rfl ?_
            refine x_sipush F (nI 200) dX5_fact_82 (by decide +kernel) ?_
            refine x_icmp_ge F 103 dX5_fact_85 (by decide) (fun h85 => ?_) (fun h85 => ?_)
            · have h85n : 200 ≤ w := (nI_leI (by decide) (by omega)).mp h85
              refine x_aload_n F 2 dX5_fact_103 rfl ?_
              refine x_get F inUX5 0 6 rfl rfl (by decide) wfX5_25 rfl dX5_fact_104 ?_
              refine x_iload_n F 0 dX5_fact_107 rfl ?_
              refine x_zald F 6 (k := 64 + (w % 100)) rfl (by omega) (by decide) dX5_fact_108 ?_
              refine x_if_ne F 115 dX5_fact_109 (by decide) (fun h109 => ?_) (fun h109 => ?_)
              · refine x_iload_n F 3 dX5_fact_115 rfl ?_
                refine x_sipush F (nI 500) dX5_fact_116 (by decide +kernel) ?_
                refine x_icmp_ge F 161 dX5_fact_119 (by decide) (fun h119 => ?_) (fun h119 => ?_)
                · have h119n : 500 ≤ w := (nI_leI (by decide) (by omega)).mp h119
                  refine x_aload_n F 2 dX5_fact_161 rfl ?_
                  refine x_get F inUX5 0 10 rfl rfl (by decide) wfX5_38 rfl dX5_fact_162 ?_
                  refine x_iload_n F 0 dX5_fact_165 rfl ?_
                  refine x_iald F 10 (k := 64 + (w % 100)) rfl (by omega) (by decide) dX5_fact_166 ?_
                  refine x_bipush F (-2) dX5_fact_167 (by decide +kernel) ?_
                  refine x_icmp_ne F 177 dX5_fact_169 (by decide) (fun h169 => ?_) (fun h169 => ?_)
                  · refine x_aload_n F 2 dX5_fact_177 rfl ?_
                    refine x_get F inUX5 0 10 rfl rfl (by decide) wfX5_38 rfl dX5_fact_178 ?_
                    refine x_iload_n F 0 dX5_fact_181 rfl ?_
                    refine x_iald F 10 (k := 64 + (w % 100)) rfl (by omega) (by decide) dX5_fact_182 ?_
                    refine x_iconst F (nI 1) dX5_fact_183 (by decide +kernel) ?_
                    refine x_iadd F ((M 10 (64 + (w % 100))) + (nI 1)) dX5_fact_184 rfl ?_
                    exact x_iret F () (congrArg (fun z => some (Value.int z)) (show M 10 (64 + w % 100) + nI 1 = fcV (slc 4 M) cw (w / 100) (w % 100) from Eq.symm ((fcV_tr (by omega) (by omega) ⟨by omega, h109⟩).trans (by unfold trV; rw [if_neg (by omega), if_neg (by omega), if_neg (by omega), if_pos (by omega), if_neg (show ¬ slc 4 M 6 (w % 100) = (-2) from h169)]; rfl)))) (rfl) (by omega) (by omega) dX5_fact_185
                  · refine x_bipush F (-3) dX5_fact_172 (by decide +kernel) ?_
                    refine x_goto F 185 dX5_fact_174 (by decide) ?_
                    exact x_iret F () (congrArg (fun z => some (Value.int z)) (show (-3) = fcV (slc 4 M) cw (w / 100) (w % 100) from Eq.symm ((fcV_tr (by omega) (by omega) ⟨by omega, h109⟩).trans (by unfold trV; rw [if_neg (by omega), if_neg (by omega), if_neg (by omega), if_pos (by omega), if_pos (show slc 4 M 6 (w % 100) = (-2) from h169)])))) (rfl) (by omega) (by omega) dX5_fact_185
                · have h119n : ¬ 500 ≤ w := fun z => h119 ((nI_leI (by decide) (by omega)).mpr z)
                  refine x_iload_n F 3 dX5_fact_122 rfl ?_
                  refine x_sipush F (nI 300) dX5_fact_123 (by decide +kernel) ?_
                  refine x_icmp_ge F 138 dX5_fact_126 (by decide) (fun h126 => ?_) (fun h126 => ?_)
                  · have h126n : 300 ≤ w := (nI_leI (by decide) (by omega)).mp h126
                    refine x_iload_n F 3 dX5_fact_138 rfl ?_
                    refine x_sipush F (nI 400) dX5_fact_139 (by decide +kernel) ?_
                    refine x_icmp_ge F 154 dX5_fact_142 (by decide) (fun h142 => ?_) (fun h142 => ?_)
                    · have h142n : 400 ≤ w := (nI_leI (by decide) (by omega)).mp h142
                      refine x_aload_n F 2 dX5_fact_154 rfl ?_
                      refine x_get F inUX5 0 9 rfl rfl (by decide) wfX5_35 rfl dX5_fact_155 ?_
                      refine x_iload_n F 0 dX5_fact_158 rfl ?_
                      refine x_iald F 9 (k := 64 + (w % 100)) rfl (by omega) (by decide) dX5_fact_159 ?_
                      exact x_iret F () (congrArg (fun z => some (Value.int z)) (show M 9 (64 + w % 100) = fcV (slc 4 M) cw (w / 100) (w % 100) from Eq.symm ((fcV_tr (by omega) (by omega) ⟨by omega, h109⟩).trans (by unfold trV; rw [if_neg (by omega), if_neg (by omega), if_pos (by omega)]; rfl)))) (rfl) (by omega) (by omega) dX5_fact_160
                    · have h142n : ¬ 400 ≤ w := fun z => h142 ((nI_leI (by decide) (by omega)).mpr z)
                      refine x_aload_n F 2 dX5_fact_145 rfl ?_
                      refine x_get F inUX5 0 8 rfl rfl (by decide) wfX5_32 rfl dX5_fact_146 ?_
                      refine x_iload_n F 0 dX5_fact_149 rfl ?_
                      refine x_iald F 8 (k := 64 + (w % 100)) rfl (by omega) (by decide) dX5_fact_150 ?_
                      refine x_goto F 160 dX5_fact_151 (by decide) ?_
                      exact x_iret F () (congrArg (fun z => some (Value.int z)) (show M 8 (64 + w % 100) = fcV (slc 4 M) cw (w / 100) (w % 100) from Eq.symm ((fcV_tr (by omega) (by omega) ⟨by omega, h109⟩).trans (by unfold trV; rw [if_neg (by omega), if_pos (by omega)]; rfl)))) (rfl) (by omega) (by omega) dX5_fact_160
                  · have h126n : ¬ 300 ≤ w := fun z => h126 ((nI_leI (by decide) (by omega)).mpr z)
                    refine x_aload_n F 2 dX5_fact_129 rfl ?_
                    refine x_get F inUX5 0 7 rfl rfl (by decide) wfX5_29 rfl dX5_fact_130 ?_
                    refine x_iload_n F 0 dX5_fact_133 rfl ?_
                    refine x_iald F 7 (k := 64 + (w % 100)) rfl (by omega) (by decide) dX5_fact_134 ?_
                    refine x_goto F 160 dX5_fact_135 (by decide) ?_
                    exact x_iret F () (congrArg (fun z => some (Value.int z)) (show M 7 (64 + w % 100) = fcV (slc 4 M) cw (w / 100) (w % 100) from Eq.symm ((fcV_tr (by omega) (by omega) ⟨by omega, h109⟩).trans (by unfold trV; rw [if_pos (by omega)]; rfl)))) (rfl) (by omega) (by omega) dX5_fact_160
              · refine x_bipush F (-2) dX5_fact_112 (by decide +kernel) ?_
                exact x_iret F () (congrArg (fun z => some (Value.int z)) (show (-2) = fcV (slc 4 M) cw (w / 100) (w % 100) from Eq.symm (fcV_bad (by omega) (by omega) (fun z => absurd h109 z.2)))) (rfl) (by omega) (by omega) dX5_fact_114
            · have h85n : ¬ 200 ≤ w := fun z => h85 ((nI_leI (by decide) (by omega)).mpr z)
              refine x_aload_n F 2 dX5_fact_88 rfl ?_
              refine x_get F inUX5 0 6 rfl rfl (by decide) wfX5_25 rfl dX5_fact_89 ?_
              refine x_iload_n F 0 dX5_fact_92 rfl ?_
              refine x_zald F 6 (k := 64 + (w % 100)) rfl (by omega) (by decide) dX5_fact_93 ?_
              refine x_if_eq F 101 dX5_fact_94 (by decide) (fun h94 => ?_) (fun h94 => ?_)
              · refine x_iconst F (nI 0) dX5_fact_101 (by decide +kernel) ?_
                exact x_iret F () (congrArg (fun z => some (Value.int z)) (show nI 0 = fcV (slc 4 M) cw (w / 100) (w % 100) from Eq.symm (by unfold fcV; rw [if_pos (by omega), if_pos h70n, if_neg (fun z => z.2 (show slc 4 M 2 (w % 100) = 0 from h94))]))) (rfl) (by omega) (by omega) dX5_fact_102
              · refine x_iconst F (nI 1) dX5_fact_97 (by decide +kernel) ?_
                refine x_goto F 102 dX5_fact_98 (by decide) ?_
                exact x_iret F () (congrArg (fun z => some (Value.int z)) (show nI 1 = fcV (slc 4 M) cw (w / 100) (w % 100) from Eq.symm (by unfold fcV; rw [if_pos (by omega), if_pos h70n, if_pos ⟨by omega, show ¬ slc 4 M 2 (w % 100) = 0 from h94⟩]))) (rfl) (by omega) (by omega) dX5_fact_102
          · have h70n : ¬ (w % 100) < cw := fun z => h70 ((nI_ltI (by omega) (by omega)).mpr z)
            refine x_bipush F (-2) dX5_fact_73 (by decide +kernel) ?_
            exact x_iret F () (congrArg (fun z => some (Value.int z)) (show (-2) = fcV (slc 4 M) cw (w / 100) (w % 100) from Eq.symm (fcV_bad (fun _ => by omega) (by omega) (fun z => absurd (hth _ z.1 z.2) (by omega))))) (rfl) (by omega) (by omega) dX5_fact_75
    · have h25n : 600 ≤ w ∧ w ≤ 605 := (in_nat (by decide) hw2 (by decide)).mp (bz_n0.mp h25)
      refine x_aload_n F 0 dX5_fact_28 rfl ?_
      refine x_get F inUX5 0 12 rfl rfl (by decide) wfX5_44 rfl dX5_fact_29 ?_
      refine x_bipush F (nI 24) dX5_fact_32 (by decide +kernel) ?_
      refine x_iload_n F 1 dX5_fact_34 rfl ?_
      refine x_iadd F (nI (24 + w)) dX5_fact_35 (nI_add _ _) ?_
      refine x_sipush F (nI 600) dX5_fact_36 (by decide +kernel) ?_
      refine x_isub F ((nI (24 + w)) - (nI 600)) dX5_fact_39 rfl ?_
      refine x_top (nI (24 + w - 600)) (pk_sub (by omega)) ?_
      refine x_iald F 12 (k := 24 + w - 600) rfl (by omega) (by decide) dX5_fact_40 ?_
      exact x_iret F () (congrArg (fun z => some (Value.int z)) (show M 12 (24 + w - 600) = fcV (slc 4 M) cw (w / 100) (w % 100) from Eq.symm (by unfold fcV; rw [if_neg (by omega), if_pos (by omega), if_pos (by omega), show 24 + w - 600 = 24 + w % 100 from by omega]; rfl))) (rfl) (by omega) (by omega) dX5_fact_41
  · exact absurd ((in_nat (by decide) hw2 (by decide)).mp (bz_n0.mp h6)) (by omega)

