/-! the JDK's and the static leaves -/
theorem win_t {a b x : Int32} (h1 : ¬ x < a) (h2 : ¬ b < x) : bz (a ≤ x ∧ x ≤ b) = nI 1 := bz_t ⟨Int32.not_lt.mp h1, Int32.not_lt.mp h2⟩
theorem win_f1 {a b x : Int32} (h : x < a) : bz (a ≤ x ∧ x ≤ b) = nI 0 := bz_f (fun z => Int32.not_lt.mpr z.1 h)
theorem win_f2 {a b x : Int32} (h : b < x) : bz (a ≤ x ∧ x ≤ b) = nI 0 := bz_f (fun z => Int32.not_lt.mpr z.2 h)
set_option maxHeartbeats 4000000 in
set_option maxRecDepth 100000 in
theorem c_X4_isWithin (l : Launch) (D : va_G) (cA : Nat → ClassId) (p0 p1 p2 : Int32)  : Cr l D cA yX4_isWithin cX4_isWithin 3 (some .boolean) 0 ([.int p0, .int p1, .int p2] : List Value) ([]) (fun r : Option Value => r = some (.int (bz (p1 ≤ p0 ∧ p0 ≤ p2)))) := by
  refine x_met (by decide +kernel) rfl (Nat.le_of_ble_eq_true rfl) ?_
  intro xp xe xs xm xbl xme xco F hnm
  refine x_lv [(0, .int p0), (1, .int p1), (2, .int p2)] [0, 1, 2] rfl ?_
  refine x_iload_n F 0 dX4_isWithin_0 rfl ?_
  refine x_iload_n F 1 dX4_isWithin_1 rfl ?_
  refine x_icmp_lt F 14 dX4_isWithin_2 (by decide) (fun h2 => ?_) (fun h2 => ?_)
  · refine x_iconst F (nI 0) dX4_isWithin_14 (by decide +kernel) ?_
    exact x_zret F (by decide +kernel) () (by first | rw [win_t h2 h7] | rw [win_f1 h2] | rw [win_f2 h7]) (rfl) (by omega) (by omega) dX4_isWithin_15
  · refine x_iload_n F 0 dX4_isWithin_5 rfl ?_
    refine x_iload_n F 2 dX4_isWithin_6 rfl ?_
    refine x_icmp_gt F 14 dX4_isWithin_7 (by decide) (fun h7 => ?_) (fun h7 => ?_)
    · refine x_iconst F (nI 0) dX4_isWithin_14 (by decide +kernel) ?_
      exact x_zret F (by decide +kernel) () (by first | rw [win_t h2 h7] | rw [win_f1 h2] | rw [win_f2 h7]) (rfl) (by omega) (by omega) dX4_isWithin_15
    · refine x_iconst F (nI 1) dX4_isWithin_10 (by decide +kernel) ?_
      refine x_goto F 15 dX4_isWithin_11 (by decide) ?_
      exact x_zret F (by decide +kernel) () (by first | rw [win_t h2 h7] | rw [win_f1 h2] | rw [win_f2 h7]) (rfl) (by omega) (by omega) dX4_isWithin_15

set_option maxHeartbeats 4000000 in
set_option maxRecDepth 100000 in
theorem c_X5_in (l : Launch) (D : va_G) (cA : Nat → ClassId) (p0 p1 p2 : Int32)  : Cr l D cA yX5_in cX5_in 3 (some .boolean) 0 ([.int p0, .int p1, .int p2] : List Value) ([]) (fun r : Option Value => r = some (.int (bz (p1 ≤ p0 ∧ p0 ≤ p2)))) := by
  refine x_met (by decide +kernel) rfl (Nat.le_of_ble_eq_true rfl) ?_
  intro xp xe xs xm xbl xme xco F hnm
  refine x_lv [(0, .int p0), (1, .int p1), (2, .int p2)] [0, 1, 2] rfl ?_
  refine x_iload_n F 0 dX5_in_0 rfl ?_
  refine x_iload_n F 1 dX5_in_1 rfl ?_
  refine x_icmp_lt F 14 dX5_in_2 (by decide) (fun h2 => ?_) (fun h2 => ?_)
  · refine x_iconst F (nI 0) dX5_in_14 (by decide +kernel) ?_
    exact x_zret F (by decide +kernel) () (by first | rw [win_t h2 h7] | rw [win_f1 h2] | rw [win_f2 h7]) (rfl) (by omega) (by omega) dX5_in_15
  · refine x_iload_n F 0 dX5_in_5 rfl ?_
    refine x_iload_n F 2 dX5_in_6 rfl ?_
    refine x_icmp_gt F 14 dX5_in_7 (by decide) (fun h7 => ?_) (fun h7 => ?_)
    · refine x_iconst F (nI 0) dX5_in_14 (by decide +kernel) ?_
      exact x_zret F (by decide +kernel) () (by first | rw [win_t h2 h7] | rw [win_f1 h2] | rw [win_f2 h7]) (rfl) (by omega) (by omega) dX5_in_15
    · refine x_iconst F (nI 1) dX5_in_10 (by decide +kernel) ?_
      refine x_goto F 15 dX5_in_11 (by decide) ?_
      exact x_zret F (by decide +kernel) () (by first | rw [win_t h2 h7] | rw [win_f1 h2] | rw [win_f2 h7]) (rfl) (by omega) (by omega) dX5_in_15

set_option maxHeartbeats 4000000 in
set_option maxRecDepth 100000 in
theorem c_X4_isRoom (l : Launch) (D : va_G) (cA : Nat → ClassId) (p0 : Int32)  : Cr l D cA yX4_isRoom cX4_isRoom 1 (some .boolean) 1 ([.int p0] : List Value) ([]) (fun r : Option Value => r = some (.int (bz (nI 0 ≤ p0 ∧ p0 ≤ nI 5)))) := by
  refine x_met (by decide +kernel) rfl (Nat.le_of_ble_eq_true rfl) ?_
  intro xp xe xs xm xbl xme xco F hnm
  refine x_lv [(0, .int p0)] [0] rfl ?_
  refine x_iload_n F 0 dX4_isRoom_0 rfl ?_
  refine x_iconst F (nI 0) dX4_isRoom_1 (by decide +kernel) ?_
  refine x_iconst F (nI 5) dX4_isRoom_2 (by decide +kernel) ?_
  refine x_callSr F [] [] (c_X4_isWithin l D cA p0 (nI 0) (nI 5)) mwX4_isWithin wmX4_54 rfl rfl (Nat.le_of_ble_eq_true rfl) ⟨by decide, by decide⟩ ⟨by show _ ≤ 0; omega, by show _ ≤ 0; omega⟩ rfl (by decide) dX4_isRoom_3 (fun r1 hp2 => ?_)
  subst hp2
  exact x_zret F (bz_nar) () (rfl) (rfl) (by omega) (by omega) dX4_isRoom_6

set_option maxHeartbeats 4000000 in
set_option maxRecDepth 100000 in
theorem c_X4_isMark (l : Launch) (D : va_G) (cA : Nat → ClassId) (p0 : Int32)  : Cr l D cA yX4_isMark cX4_isMark 1 (some .boolean) 1 ([.int p0] : List Value) ([]) (fun r : Option Value => r = some (.int (bz (nI 0 ≤ p0 ∧ p0 ≤ nI 1)))) := by
  refine x_met (by decide +kernel) rfl (Nat.le_of_ble_eq_true rfl) ?_
  intro xp xe xs xm xbl xme xco F hnm
  refine x_lv [(0, .int p0)] [0] rfl ?_
  refine x_iload_n F 0 dX4_isMark_0 rfl ?_
  refine x_iconst F (nI 0) dX4_isMark_1 (by decide +kernel) ?_
  refine x_iconst F (nI 1) dX4_isMark_2 (by decide +kernel) ?_
  refine x_callSr F [] [] (c_X4_isWithin l D cA p0 (nI 0) (nI 1)) mwX4_isWithin wmX4_54 rfl rfl (Nat.le_of_ble_eq_true rfl) ⟨by decide, by decide⟩ ⟨by show _ ≤ 0; omega, by show _ ≤ 0; omega⟩ rfl (by decide) dX4_isMark_3 (fun r1 hp2 => ?_)
  subst hp2
  exact x_zret F (bz_nar) () (rfl) (rfl) (by omega) (by omega) dX4_isMark_6

theorem tr_t {A B C : Prop} [Decidable A] [Decidable B] [Decidable C] (h1 : ¬ bz A = 0) (h2 : ¬ bz B = 0) (h3 : ¬ bz C = 0) : bz (A ∧ B ∧ C) = nI 1 := bz_t ⟨bz_n0.mp h1, bz_n0.mp h2, bz_n0.mp h3⟩
theorem tr_f1 {A B C : Prop} [Decidable A] [Decidable B] [Decidable C] (h1 : bz A = 0) : bz (A ∧ B ∧ C) = nI 0 := bz_f (fun z => bz_0.mp h1 z.1)
theorem tr_f2 {A B C : Prop} [Decidable A] [Decidable B] [Decidable C] (h1 : bz B = 0) : bz (A ∧ B ∧ C) = nI 0 := bz_f (fun z => bz_0.mp h1 z.2.1)
theorem tr_f3 {A B C : Prop} [Decidable A] [Decidable B] [Decidable C] (h1 : bz C = 0) : bz (A ∧ B ∧ C) = nI 0 := bz_f (fun z => bz_0.mp h1 z.2.2)
set_option maxHeartbeats 4000000 in
set_option maxRecDepth 100000 in
theorem c_X4_areTraits (l : Launch) (D : va_G) (cA : Nat → ClassId) (p0 p1 p2 : Int32)  : Cr l D cA yX4_areTraits cX4_areTraits 3 (some .boolean) 2 ([.int p0, .int p1, .int p2] : List Value) ([]) (fun r : Option Value => r = some (.int (bz ((nI 1 ≤ p0 ∧ p0 ≤ nI 100) ∧ (nI 0 ≤ p1 ∧ p1 ≤ nI 50) ∧ (nI 0 ≤ p2 ∧ p2 ≤ nI 5))))) := by
  refine x_met (by decide +kernel) rfl (Nat.le_of_ble_eq_true rfl) ?_
  intro xp xe xs xm xbl xme xco F hnm
  refine x_lv [(0, .int p0), (1, .int p1), (2, .int p2)] [0, 1, 2] rfl ?_
  refine x_iload_n F 0 dX4_areTraits_0 rfl ?_
  refine x_iconst F (nI 1) dX4_areTraits_1 (by decide +kernel) ?_
  refine x_bipush F (nI 100) dX4_areTraits_2 (by decide +kernel) ?_
  refine x_callSr F [] [] (c_X4_isWithin l D cA p0 (nI 1) (nI 100)) mwX4_isWithin wmX4_54 rfl rfl (Nat.le_of_ble_eq_true rfl) ⟨by decide, by decide⟩ ⟨by show _ ≤ 0; omega, by show _ ≤ 0; omega⟩ rfl (by decide) dX4_areTraits_4 (fun r1 hp2 => ?_)
  subst hp2
  refine x_if_eq F 31 dX4_areTraits_7 (by decide) (fun h7 => ?_) (fun h7 => ?_)
  · refine x_iconst F (nI 0) dX4_areTraits_31 (by decide +kernel) ?_
    exact x_zret F (by decide +kernel) () (by first | rw [tr_t h7 h17 h24] | rw [tr_f1 h7] | rw [tr_f2 h17] | rw [tr_f3 h24]) (rfl) (by omega) (by omega) dX4_areTraits_32
  · refine x_iload_n F 1 dX4_areTraits_10 rfl ?_
    refine x_iconst F (nI 0) dX4_areTraits_11 (by decide +kernel) ?_
    refine x_bipush F (nI 50) dX4_areTraits_12 (by decide +kernel) ?_
    refine x_callSr F [] [] (c_X4_isWithin l D cA p1 (nI 0) (nI 50)) mwX4_isWithin wmX4_54 rfl rfl (Nat.le_of_ble_eq_true rfl) ⟨by decide, by decide⟩ ⟨by show _ ≤ 0; omega, by show _ ≤ 0; omega⟩ rfl (by decide) dX4_areTraits_14 (fun r3 hp4 => ?_)
    subst hp4
    refine x_if_eq F 31 dX4_areTraits_17 (by decide) (fun h17 => ?_) (fun h17 => ?_)
    · refine x_iconst F (nI 0) dX4_areTraits_31 (by decide +kernel) ?_
      exact x_zret F (by decide +kernel) () (by first | rw [tr_t h7 h17 h24] | rw [tr_f1 h7] | rw [tr_f2 h17] | rw [tr_f3 h24]) (rfl) (by omega) (by omega) dX4_areTraits_32
    · refine x_iload_n F 2 dX4_areTraits_20 rfl ?_
      refine x_callSr F [] [] (c_X4_isRoom l D cA p2) mwX4_isRoom wmX4_51 rfl rfl (Nat.le_of_ble_eq_true rfl) ⟨by decide, by decide⟩ ⟨by show _ ≤ 0; omega, by show _ ≤ 0; omega⟩ rfl (by decide) dX4_areTraits_21 (fun r5 hp6 => ?_)
      subst hp6
      refine x_if_eq F 31 dX4_areTraits_24 (by decide) (fun h24 => ?_) (fun h24 => ?_)
      · refine x_iconst F (nI 0) dX4_areTraits_31 (by decide +kernel) ?_
        exact x_zret F (by decide +kernel) () (by first | rw [tr_t h7 h17 h24] | rw [tr_f1 h7] | rw [tr_f2 h17] | rw [tr_f3 h24]) (rfl) (by omega) (by omega) dX4_areTraits_32
      · refine x_iconst F (nI 1) dX4_areTraits_27 (by decide +kernel) ?_
        refine x_goto F 32 dX4_areTraits_28 (by decide) ?_
        exact x_zret F (by decide +kernel) () (by first | rw [tr_t h7 h17 h24] | rw [tr_f1 h7] | rw [tr_f2 h17] | rw [tr_f3 h24]) (rfl) (by omega) (by omega) dX4_areTraits_32

set_option maxHeartbeats 4000000 in
set_option maxRecDepth 100000 in
theorem c_X5_isTold (l : Launch) (D : va_G) (cA : Nat → ClassId) (p0 p1 p2 : Int32)  : Cr l D cA yX5_isTold cX5_isTold 3 (some .boolean) 1 ([.int p0, .int p1, .int p2] : List Value) ([]) (fun r : Option Value => r = some (.int (bz ((nI 1 ≤ p0 ∧ p0 ≤ nI 100) ∧ (nI 0 ≤ p1 ∧ p1 ≤ nI 50) ∧ (nI 0 ≤ p2 ∧ p2 ≤ nI 5))))) := by
  refine x_met (by decide +kernel) rfl (Nat.le_of_ble_eq_true rfl) ?_
  intro xp xe xs xm xbl xme xco F hnm
  refine x_lv [(0, .int p0), (1, .int p1), (2, .int p2)] [0, 1, 2] rfl ?_
  refine x_iload_n F 0 dX5_isTold_0 rfl ?_
  refine x_iconst F (nI 1) dX5_isTold_1 (by decide +kernel) ?_
  refine x_bipush F (nI 100) dX5_isTold_2 (by decide +kernel) ?_
  refine x_callSr F [] [] (c_X5_in l D cA p0 (nI 1) (nI 100)) mwX5_in wmX5_101 rfl rfl (Nat.le_of_ble_eq_true rfl) ⟨by decide, by decide⟩ ⟨by show _ ≤ 0; omega, by show _ ≤ 0; omega⟩ rfl (by decide) dX5_isTold_4 (fun r1 hp2 => ?_)
  subst hp2
  refine x_if_eq F 33 dX5_isTold_7 (by decide) (fun h7 => ?_) (fun h7 => ?_)
  · refine x_iconst F (nI 0) dX5_isTold_33 (by decide +kernel) ?_
    exact x_zret F (by decide +kernel) () (by first | rw [tr_t h7 h17 h26] | rw [tr_f1 h7] | rw [tr_f2 h17] | rw [tr_f3 h26]) (rfl) (by omega) (by omega) dX5_isTold_34
  · refine x_iload_n F 1 dX5_isTold_10 rfl ?_
    refine x_iconst F (nI 0) dX5_isTold_11 (by decide +kernel) ?_
    refine x_bipush F (nI 50) dX5_isTold_12 (by decide +kernel) ?_
    refine x_callSr F [] [] (c_X5_in l D cA p1 (nI 0) (nI 50)) mwX5_in wmX5_101 rfl rfl (Nat.le_of_ble_eq_true rfl) ⟨by decide, by decide⟩ ⟨by show _ ≤ 0; omega, by show _ ≤ 0; omega⟩ rfl (by decide) dX5_isTold_14 (fun r3 hp4 => ?_)
    subst hp4
    refine x_if_eq F 33 dX5_isTold_17 (by decide) (fun h17 => ?_) (fun h17 => ?_)
    · refine x_iconst F (nI 0) dX5_isTold_33 (by decide +kernel) ?_
      exact x_zret F (by decide +kernel) () (by first | rw [tr_t h7 h17 h26] | rw [tr_f1 h7] | rw [tr_f2 h17] | rw [tr_f3 h26]) (rfl) (by omega) (by omega) dX5_isTold_34
    · refine x_iload_n F 2 dX5_isTold_20 rfl ?_
      refine x_iconst F (nI 0) dX5_isTold_21 (by decide +kernel) ?_
      refine x_iconst F (nI 5) dX5_isTold_22 (by decide +kernel) ?_
      refine x_callSr F [] [] (c_X5_in l D cA p2 (nI 0) (nI 5)) mwX5_in wmX5_101 rfl rfl (Nat.le_of_ble_eq_true rfl) ⟨by decide, by decide⟩ ⟨by show _ ≤ 0; omega, by show _ ≤ 0; omega⟩ rfl (by decide) dX5_isTold_23 (fun r5 hp6 => ?_)
      subst hp6
      refine x_if_eq F 33 dX5_isTold_26 (by decide) (fun h26 => ?_) (fun h26 => ?_)
      · refine x_iconst F (nI 0) dX5_isTold_33 (by decide +kernel) ?_
        exact x_zret F (by decide +kernel) () (by first | rw [tr_t h7 h17 h26] | rw [tr_f1 h7] | rw [tr_f2 h17] | rw [tr_f3 h26]) (rfl) (by omega) (by omega) dX5_isTold_34
      · refine x_iconst F (nI 1) dX5_isTold_29 (by decide +kernel) ?_
        refine x_goto F 34 dX5_isTold_30 (by decide) ?_
        exact x_zret F (by decide +kernel) () (by first | rw [tr_t h7 h17 h26] | rw [tr_f1 h7] | rw [tr_f2 h17] | rw [tr_f3 h26]) (rfl) (by omega) (by omega) dX5_isTold_34

theorem bt_1 {h s h2 s2 : Int32} (a : h < h2) : bz (h < h2 ∨ h = h2 ∧ s < s2) = nI 1 := bz_t (Or.inl a)
theorem bt_2 {h s h2 s2 : Int32} (a : h = h2) (b : s < s2) : bz (h < h2 ∨ h = h2 ∧ s < s2) = nI 1 := bz_t (Or.inr ⟨a, b⟩)
theorem bt_3 {h s h2 s2 : Int32} (a : ¬ h < h2) (b : ¬ h = h2) : bz (h < h2 ∨ h = h2 ∧ s < s2) = nI 0 := bz_f (fun z => z.elim a (fun z => b z.1))
theorem bt_4 {h s h2 s2 : Int32} (a : ¬ h < h2) (b : ¬ s < s2) : bz (h < h2 ∨ h = h2 ∧ s < s2) = nI 0 := bz_f (fun z => z.elim a (fun z => b z.2))
theorem bt_1' {h s h2 s2 : Int32} (a : ¬ h2 ≤ h) : bz (h < h2 ∨ h = h2 ∧ s < s2) = nI 1 := bt_1 (Int32.not_le.mp a)
theorem bt_2' {h s h2 s2 : Int32} (a : h = h2) (b : ¬ s2 ≤ s) : bz (h < h2 ∨ h = h2 ∧ s < s2) = nI 1 := bt_2 a (Int32.not_le.mp b)
theorem bt_4' {h s h2 s2 : Int32} (a : ¬ h < h2) (b : s2 ≤ s) : bz (h < h2 ∨ h = h2 ∧ s < s2) = nI 0 := bt_4 a (Int32.not_lt.mpr b)
set_option maxHeartbeats 4000000 in
set_option maxRecDepth 100000 in
theorem c_X5_isBetter (l : Launch) (D : va_G) (cA : Nat → ClassId) (p0 p1 p2 p3 : Int32)  : Cr l D cA yX5_isBetter cX5_isBetter 4 (some .boolean) 0 ([.int p0, .int p1, .int p2, .int p3] : List Value) ([]) (fun r : Option Value => r = some (.int (bz (p0 < p2 ∨ p0 = p2 ∧ p1 < p3)))) := by
  refine x_met (by decide +kernel) rfl (Nat.le_of_ble_eq_true rfl) ?_
  intro xp xe xs xm xbl xme xco F hnm
  refine x_lv [(0, .int p0), (1, .int p1), (2, .int p2), (3, .int p3)] [0, 1, 2, 3] rfl ?_
  refine x_iload_n F 0 dX5_isBetter_0 rfl ?_
  refine x_iload_n F 2 dX5_isBetter_1 rfl ?_
  refine x_icmp_lt F 15 dX5_isBetter_2 (by decide) (fun h2 => ?_) (fun h2 => ?_)
  · refine x_iconst F (nI 1) dX5_isBetter_15 (by decide +kernel) ?_
    refine x_goto F 20 dX5_isBetter_16 (by decide) ?_
    exact x_zret F (by decide +kernel) () (by first | rw [bt_1 h2] | rw [bt_3 h2 h7] | rw [bt_2 h7 h12] | rw [bt_4 h2 h12] | rw [bt_2' h7 h12] | rw [bt_4' h2 h12]) (rfl) (by omega) (by omega) dX5_isBetter_20
  · refine x_iload_n F 0 dX5_isBetter_5 rfl ?_
    refine x_iload_n F 2 dX5_isBetter_6 rfl ?_
    refine x_icmp_ne F 19 dX5_isBetter_7 (by decide) (fun h7 => ?_) (fun h7 => ?_)
    · refine x_iconst F (nI 0) dX5_isBetter_19 (by decide +kernel) ?_
      exact x_zret F (by decide +kernel) () (by first | rw [bt_1 h2] | rw [bt_3 h2 h7] | rw [bt_2 h7 h12] | rw [bt_4 h2 h12] | rw [bt_2' h7 h12] | rw [bt_4' h2 h12]) (rfl) (by omega) (by omega) dX5_isBetter_20
    · refine x_iload_n F 1 dX5_isBetter_10 rfl ?_
      refine x_iload_n F 3 dX5_isBetter_11 rfl ?_
      refine x_icmp_ge F 19 dX5_isBetter_12 (by decide) (fun h12 => ?_) (fun h12 => ?_)
      · refine x_iconst F (nI 0) dX5_isBetter_19 (by decide +kernel) ?_
        exact x_zret F (by decide +kernel) () (by first | rw [bt_1 h2] | rw [bt_3 h2 h7] | rw [bt_2 h7 h12] | rw [bt_4 h2 h12] | rw [bt_2' h7 h12] | rw [bt_4' h2 h12]) (rfl) (by omega) (by omega) dX5_isBetter_20
      · refine x_iconst F (nI 1) dX5_isBetter_15 (by decide +kernel) ?_
        refine x_goto F 20 dX5_isBetter_16 (by decide) ?_
        exact x_zret F (by decide +kernel) () (by first | rw [bt_1 h2] | rw [bt_3 h2 h7] | rw [bt_2 h7 h12] | rw [bt_4 h2 h12] | rw [bt_2' h7 h12] | rw [bt_4' h2 h12]) (rfl) (by omega) (by omega) dX5_isBetter_20

set_option maxHeartbeats 4000000 in
set_option maxRecDepth 100000 in
theorem c_X4_scoreFrom (l : Launch) (D : va_G) (cA : Nat → ClassId) (p0 p1 : Int32)  : Cr l D cA yX4_scoreFrom cX4_scoreFrom 2 (some .long) 0 ([.int p0, .int p1] : List Value) ([]) (fun r : Option Value => r = some (.long (p0.toInt64 <<< ((nI 32).toInt64 &&& 63) + p1.toInt64))) := by
  refine x_met (by decide +kernel) rfl (Nat.le_of_ble_eq_true rfl) ?_
  intro xp xe xs xm xbl xme xco F hnm
  refine x_lv [(0, .int p0), (1, .int p1)] [0, 1] rfl ?_
  refine x_iload_n F 0 dX4_scoreFrom_0 rfl ?_
  refine x_i2l F p0.toInt64 dX4_scoreFrom_1 rfl ?_
  refine x_bipush F (nI 32) dX4_scoreFrom_2 (by decide +kernel) ?_
  refine x_lshl F (p0.toInt64 <<< ((nI 32).toInt64 &&& 63)) dX4_scoreFrom_4 rfl ?_
  refine x_iload_n F 1 dX4_scoreFrom_5 rfl ?_
  refine x_i2l F p1.toInt64 dX4_scoreFrom_6 rfl ?_
  refine x_ladd F ((p0.toInt64 <<< ((nI 32).toInt64 &&& 63)) + p1.toInt64) dX4_scoreFrom_7 rfl ?_
  exact x_lret F () (rfl) (rfl) (by omega) (by omega) dX4_scoreFrom_8

set_option maxHeartbeats 4000000 in
set_option maxRecDepth 100000 in
theorem c_X4_partOf (l : Launch) (D : va_G) (cA : Nat → ClassId) (p0 : Int64) (p1 : Int32)  : Cr l D cA yX4_partOf cX4_partOf 3 (some .int) 0 ([.long p0, .int p1] : List Value) ([]) (fun r : Option Value => r = some (.int (if p1 = 0 then p0.toInt32 else (p0 >>> ((nI 32).toInt64 &&& 63)).toInt32))) := by
  refine x_met (by decide +kernel) rfl (Nat.le_of_ble_eq_true rfl) ?_
  intro xp xe xs xm xbl xme xco F hnm
  refine x_lv [(0, .long p0), (2, .int p1)] [0, 1] rfl ?_
  refine x_iload_n F 1 dX4_partOf_0 rfl ?_
  refine x_if_eq F 12 dX4_partOf_1 (by decide) (fun h1 => ?_) (fun h1 => ?_)
  · refine x_lload_n F 0 dX4_partOf_12 rfl ?_
    refine x_l2i F p0.toInt32 dX4_partOf_13 rfl ?_
    exact x_iret F () (by first | rw [if_pos h1] | rw [if_neg h1]) (rfl) (by omega) (by omega) dX4_partOf_14
  · refine x_lload_n F 0 dX4_partOf_4 rfl ?_
    refine x_bipush F (nI 32) dX4_partOf_5 (by decide +kernel) ?_
    refine x_lshr F (p0 >>> ((nI 32).toInt64 &&& 63)) dX4_partOf_7 rfl ?_
    refine x_l2i F ((p0 >>> ((nI 32).toInt64 &&& 63)).toInt32) dX4_partOf_8 rfl ?_
    refine x_goto F 14 dX4_partOf_9 (by decide) ?_
    exact x_iret F () (by first | rw [if_pos h1] | rw [if_neg h1]) (rfl) (by omega) (by omega) dX4_partOf_14

/-- Integer.bitCount, as its code has it -/
def bcnt (x : Int32) : Int32 :=
  let sh := fun (a b : Int32) => (a.toUInt32 >>> (b.toUInt32 &&& Int32.toUInt32 31)).toInt32
  let a := x - (sh x (nI 1) &&& nI 1431655765)
  let b := (a &&& nI 858993459) + (sh a (nI 2) &&& nI 858993459)
  let c := (b + sh b (nI 4)) &&& nI 252645135
  let d := c + sh c (nI 8)
  let e := d + sh d (nI 16)
  e &&& nI 63
set_option maxHeartbeats 4000000 in
set_option maxRecDepth 100000 in
theorem c_J6_bitCount_0f7a4 (l : Launch) (D : va_G) (cA : Nat → ClassId) (p0 : Int32)  : Cr l D cA yJ6_bitCount_0f7a4 cJ6_bitCount_0f7a4 1 (some .int) 0 ([.int p0] : List Value) ([]) (fun r : Option Value => r = some (.int (bcnt p0))) := by
  refine x_met (by decide +kernel) rfl (Nat.le_of_ble_eq_true rfl) ?_
  intro xp xe xs xm xbl xme xco F hnm
  refine x_lv [(0, .int p0)] [0] rfl ?_
  refine x_iload_n F 0 dJ6_bitCount_0f7a4_0 rfl ?_
  refine x_iload_n F 0 dJ6_bitCount_0f7a4_1 rfl ?_
  refine x_iconst F (nI 1) dJ6_bitCount_0f7a4_2 (by decide +kernel) ?_
  refine x_iushr F ((p0.toUInt32 >>> ((nI 1).toUInt32 &&& Int32.toUInt32 31)).toInt32) dJ6_bitCount_0f7a4_3 rfl ?_
  refine x_ldcw F (1431655765) wvJ6_265 dJ6_bitCount_0f7a4_4 ?_
  refine x_top (nI 1431655765) (by decide +kernel) ?_
  refine x_iand F (((p0.toUInt32 >>> ((nI 1).toUInt32 &&& Int32.toUInt32 31)).toInt32) &&& (nI 1431655765)) dJ6_bitCount_0f7a4_7 rfl ?_
  refine x_isub F (p0 - (((p0.toUInt32 >>> ((nI 1).toUInt32 &&& Int32.toUInt32 31)).toInt32) &&& (nI 1431655765))) dJ6_bitCount_0f7a4_8 rfl ?_
  refine x_istore_n F [(0, .int (p0 - (((p0.toUInt32 >>> ((nI 1).toUInt32 &&& Int32.toUInt32 31)).toInt32) &&& (nI 1431655765))))] dJ6_bitCount_0f7a4_9 (by decide) rfl ?_
  refine x_iload_n F 0 dJ6_bitCount_0f7a4_10 rfl ?_
  refine x_ldcw F (858993459) wvJ6_266 dJ6_bitCount_0f7a4_11 ?_
  refine x_top (nI 858993459) (by decide +kernel) ?_
  refine x_iand F ((p0 - (((p0.toUInt32 >>> ((nI 1).toUInt32 &&& Int32.toUInt32 31)).toInt32) &&& (nI 1431655765))) &&& (nI 858993459)) dJ6_bitCount_0f7a4_14 rfl ?_
  refine x_iload_n F 0 dJ6_bitCount_0f7a4_15 rfl ?_
  refine x_iconst F (nI 2) dJ6_bitCount_0f7a4_16 (by decide +kernel) ?_
  refine x_iushr F (((p0 - (((p0.toUInt32 >>> ((nI 1).toUInt32 &&& Int32.toUInt32 31)).toInt32) &&& (nI 1431655765))).toUInt32 >>> ((nI 2).toUInt32 &&& Int32.toUInt32 31)).toInt32) dJ6_bitCount_0f7a4_17 rfl ?_
  refine x_ldcw F (858993459) wvJ6_266 dJ6_bitCount_0f7a4_18 ?_
  refine x_top (nI 858993459) (by decide +kernel) ?_
  refine x_iand F ((((p0 - (((p0.toUInt32 >>> ((nI 1).toUInt32 &&& Int32.toUInt32 31)).toInt32) &&& (nI 1431655765))).toUInt32 >>> ((nI 2).toUInt32 &&& Int32.toUInt32 31)).toInt32) &&& (nI 858993459)) dJ6_bitCount_0f7a4_21 rfl ?_
  refine x_iadd F (((p0 - (((p0.toUInt32 >>> ((nI 1).toUInt32 &&& Int32.toUInt32 31)).toInt32) &&& (nI 1431655765))) &&& (nI 858993459)) + ((((p0 - (((p0.toUInt32 >>> ((nI 1).toUInt32 &&& Int32.toUInt32 31)).toInt32) &&& (nI 1431655765))).toUInt32 >>> ((nI 2).toUInt32 &&& Int32.toUInt32 31)).toInt32) &&& (nI 858993459))) dJ6_bitCount_0f7a4_22 rfl ?_
  refine x_istore_n F [(0, .int (((p0 - (((p0.toUInt32 >>> ((nI 1).toUInt32 &&& Int32.toUInt32 31)).toInt32) &&& (nI 1431655765))) &&& (nI 858993459)) + ((((p0 - (((p0.toUInt32 >>> ((nI 1).toUInt32 &&& Int32.toUInt32 31)).toInt32) &&& (nI 1431655765))).toUInt32 >>> ((nI 2).toUInt32 &&& Int32.toUInt32 31)).toInt32) &&& (nI 858993459))))] dJ6_bitCount_0f7a4_23 (by decide) rfl ?_
  refine x_iload_n F 0 dJ6_bitCount_0f7a4_24 rfl ?_
  refine x_iload_n F 0 dJ6_bitCount_0f7a4_25 rfl ?_
  refine x_iconst F (nI 4) dJ6_bitCount_0f7a4_26 (by decide +kernel) ?_
  refine x_iushr F (((((p0 - (((p0.toUInt32 >>> ((nI 1).toUInt32 &&& Int32.toUInt32 31)).toInt32) &&& (nI 1431655765))) &&& (nI 858993459)) + ((((p0 - (((p0.toUInt32 >>> ((nI 1).toUInt32 &&& Int32.toUInt32 31)).toInt32) &&& (nI 1431655765))).toUInt32 >>> ((nI 2).toUInt32 &&& Int32.toUInt32 31)).toInt32) &&& (nI 858993459))).toUInt32 >>> ((nI 4).toUInt32 &&& Int32.toUInt32 31)).toInt32) dJ6_bitCount_0f7a4_27 rfl ?_
  refine x_iadd F ((((p0 - (((p0.toUInt32 >>> ((nI 1).toUInt32 &&& Int32.toUInt32 31)).toInt32) &&& (nI 1431655765))) &&& (nI 858993459)) + ((((p0 - (((p0.toUInt32 >>> ((nI 1).toUInt32 &&& Int32.toUInt32 31)).toInt32) &&& (nI 1431655765))).toUInt32 >>> ((nI 2).toUInt32 &&& Int32.toUInt32 31)).toInt32) &&& (nI 858993459))) + (((((p0 - (((p0.toUInt32 >>> ((nI 1).toUInt32 &&& Int32.toUInt32 31)).toInt32) &&& (nI 1431655765))) &&& (nI 858993459)) + ((((p0 - (((p0.toUInt32 >>> ((nI 1).toUInt32 &&& Int32.toUInt32 31)).toInt32) &&& (nI 1431655765))).toUInt32 >>> ((nI 2).toUInt32 &&& Int32.toUInt32 31)).toInt32) &&& (nI 858993459))).toUInt32 >>> ((nI 4).toUInt32 &&& Int32.toUInt32 31)).toInt32)) dJ6_bitCount_0f7a4_28 rfl ?_
  refine x_ldcw F (252645135) wvJ6_267 dJ6_bitCount_0f7a4_29 ?_
  refine x_top (nI 252645135) (by decide +kernel) ?_
  refine x_iand F (((((p0 - (((p0.toUInt32 >>> ((nI 1).toUInt32 &&& Int32.toUInt32 31)).toInt32) &&& (nI 1431655765))) &&& (nI 858993459)) + ((((p0 - (((p0.toUInt32 >>> ((nI 1).toUInt32 &&& Int32.toUInt32 31)).toInt32) &&& (nI 1431655765))).toUInt32 >>> ((nI 2).toUInt32 &&& Int32.toUInt32 31)).toInt32) &&& (nI 858993459))) + (((((p0 - (((p0.toUInt32 >>> ((nI 1).toUInt32 &&& Int32.toUInt32 31)).toInt32) &&& (nI 1431655765))) &&& (nI 858993459)) + ((((p0 - (((p0.toUInt32 >>> ((nI 1).toUInt32 &&& Int32.toUInt32 31)).toInt32) &&& (nI 1431655765))).toUInt32 >>> ((nI 2).toUInt32 &&& Int32.toUInt32 31)).toInt32) &&& (nI 858993459))).toUInt32 >>> ((nI 4).toUInt32 &&& Int32.toUInt32 31)).toInt32)) &&& (nI 252645135)) dJ6_bitCount_0f7a4_32 rfl ?_
  refine x_istore_n F [(0, .int (((((p0 - (((p0.toUInt32 >>> ((nI 1).toUInt32 &&& Int32.toUInt32 31)).toInt32) &&& (nI 1431655765))) &&& (nI 858993459)) + ((((p0 - (((p0.toUInt32 >>> ((nI 1).toUInt32 &&& Int32.toUInt32 31)).toInt32) &&& (nI 1431655765))).toUInt32 >>> ((nI 2).toUInt32 &&& Int32.toUInt32 31)).toInt32) &&& (nI 858993459))) + (((((p0 - (((p0.toUInt32 >>> ((nI 1).toUInt32 &&& Int32.toUInt32 31)).toInt32) &&& (nI 1431655765))) &&& (nI 858993459)) + ((((p0 - (((p0.toUInt32 >>> ((nI 1).toUInt32 &&& Int32.toUInt32 31)).toInt32) &&& (nI 1431655765))).toUInt32 >>> ((nI 2).toUInt32 &&& Int32.toUInt32 31)).toInt32) &&& (nI 858993459))).toUInt32 >>> ((nI 4).toUInt32 &&& Int32.toUInt32 31)).toInt32)) &&& (nI 252645135)))] dJ6_bitCount_0f7a4_33 (by decide) rfl ?_
  refine x_iload_n F 0 dJ6_bitCount_0f7a4_34 rfl ?_
  refine x_iload_n F 0 dJ6_bitCount_0f7a4_35 rfl ?_
  refine x_bipush F (nI 8) dJ6_bitCount_0f7a4_36 (by decide +kernel) ?_
  refine x_iushr F (((((((p0 - (((p0.toUInt32 >>> ((nI 1).toUInt32 &&& Int32.toUInt32 31)).toInt32) &&& (nI 1431655765))) &&& (nI 858993459)) + ((((p0 - (((p0.toUInt32 >>> ((nI 1).toUInt32 &&& Int32.toUInt32 31)).toInt32) &&& (nI 1431655765))).toUInt32 >>> ((nI 2).toUInt32 &&& Int32.toUInt32 31)).toInt32) &&& (nI 858993459))) + (((((p0 - (((p0.toUInt32 >>> ((nI 1).toUInt32 &&& Int32.toUInt32 31)).toInt32) &&& (nI 1431655765))) &&& (nI 858993459)) + ((((p0 - (((p0.toUInt32 >>> ((nI 1).toUInt32 &&& Int32.toUInt32 31)).toInt32) &&& (nI 1431655765))).toUInt32 >>> ((nI 2).toUInt32 &&& Int32.toUInt32 31)).toInt32) &&& (nI 858993459))).toUInt32 >>> ((nI 4).toUInt32 &&& Int32.toUInt32 31)).toInt32)) &&& (nI 252645135)).toUInt32 >>> ((nI 8).toUInt32 &&& Int32.toUInt32 31)).toInt32) dJ6_bitCount_0f7a4_38 rfl ?_
  refine x_iadd F ((((((p0 - (((p0.toUInt32 >>> ((nI 1).toUInt32 &&& Int32.toUInt32 31)).toInt32) &&& (nI 1431655765))) &&& (nI 858993459)) + ((((p0 - (((p0.toUInt32 >>> ((nI 1).toUInt32 &&& Int32.toUInt32 31)).toInt32) &&& (nI 1431655765))).toUInt32 >>> ((nI 2).toUInt32 &&& Int32.toUInt32 31)).toInt32) &&& (nI 858993459))) + (((((p0 - (((p0.toUInt32 >>> ((nI 1).toUInt32 &&& Int32.toUInt32 31)).toInt32) &&& (nI 1431655765))) &&& (nI 858993459)) + ((((p0 - (((p0.toUInt32 >>> ((nI 1).toUInt32 &&& Int32.toUInt32 31)).toInt32) &&& (nI 1431655765))).toUInt32 >>> ((nI 2).toUInt32 &&& Int32.toUInt32 31)).toInt32) &&& (nI 858993459))).toUInt32 >>> ((nI 4).toUInt32 &&& Int32.toUInt32 31)).toInt32)) &&& (nI 252645135)) + (((((((p0 - (((p0.toUInt32 >>> ((nI 1).toUInt32 &&& Int32.toUInt32 31)).toInt32) &&& (nI 1431655765))) &&& (nI 858993459)) + ((((p0 - (((p0.toUInt32 >>> ((nI 1).toUInt32 &&& Int32.toUInt32 31)).toInt32) &&& (nI 1431655765))).toUInt32 >>> ((nI 2).toUInt32 &&& Int32.toUInt32 31)).toInt32) &&& (nI 858993459))) + (((((p0 - (((p0.toUInt32 >>> ((nI 1).toUInt32 &&& Int32.toUInt32 31)).toInt32) &&& (nI 1431655765))) &&& (nI 858993459)) + ((((p0 - (((p0.toUInt32 >>> ((nI 1).toUInt32 &&& Int32.toUInt32 31)).toInt32) &&& (nI 1431655765))).toUInt32 >>> ((nI 2).toUInt32 &&& Int32.toUInt32 31)).toInt32) &&& (nI 858993459))).toUInt32 >>> ((nI 4).toUInt32 &&& Int32.toUInt32 31)).toInt32)) &&& (nI 252645135)).toUInt32 >>> ((nI 8).toUInt32 &&& Int32.toUInt32 31)).toInt32)) dJ6_bitCount_0f7a4_39 rfl ?_
  refine x_istore_n F [(0, .int ((((((p0 - (((p0.toUInt32 >>> ((nI 1).toUInt32 &&& Int32.toUInt32 31)).toInt32) &&& (nI 1431655765))) &&& (nI 858993459)) + ((((p0 - (((p0.toUInt32 >>> ((nI 1).toUInt32 &&& Int32.toUInt32 31)).toInt32) &&& (nI 1431655765))).toUInt32 >>> ((nI 2).toUInt32 &&& Int32.toUInt32 31)).toInt32) &&& (nI 858993459))) + (((((p0 - (((p0.toUInt32 >>> ((nI 1).toUInt32 &&& Int32.toUInt32 31)).toInt32) &&& (nI 1431655765))) &&& (nI 858993459)) + ((((p0 - (((p0.toUInt32 >>> ((nI 1).toUInt32 &&& Int32.toUInt32 31)).toInt32) &&& (nI 1431655765))).toUInt32 >>> ((nI 2).toUInt32 &&& Int32.toUInt32 31)).toInt32) &&& (nI 858993459))).toUInt32 >>> ((nI 4).toUInt32 &&& Int32.toUInt32 31)).toInt32)) &&& (nI 252645135)) + (((((((p0 - (((p0.toUInt32 >>> ((nI 1).toUInt32 &&& Int32.toUInt32 31)).toInt32) &&& (nI 1431655765))) &&& (nI 858993459)) + ((((p0 - (((p0.toUInt32 >>> ((nI 1).toUInt32 &&& Int32.toUInt32 31)).toInt32) &&& (nI 1431655765))).toUInt32 >>> ((nI 2).toUInt32 &&& Int32.toUInt32 31)).toInt32) &&& (nI 858993459))) + (((((p0 - (((p0.toUInt32 >>> ((nI 1).toUInt32 &&& Int32.toUInt32 31)).toInt32) &&& (nI 1431655765))) &&& (nI 858993459)) + ((((p0 - (((p0.toUInt32 >>> ((nI 1).toUInt32 &&& Int32.toUInt32 31)).toInt32) &&& (nI 1431655765))).toUInt32 >>> ((nI 2).toUInt32 &&& Int32.toUInt32 31)).toInt32) &&& (nI 858993459))).toUInt32 >>> ((nI 4).toUInt32 &&& Int32.toUInt32 31)).toInt32)) &&& (nI 252645135)).toUInt32 >>> ((nI 8).toUInt32 &&& Int32.toUInt32 31)).toInt32)))] dJ6_bitCount_0f7a4_40 (by decide) rfl ?_
  refine x_iload_n F 0 dJ6_bitCount_0f7a4_41 rfl ?_
  refine x_iload_n F 0 dJ6_bitCount_0f7a4_42 rfl ?_
  refine x_bipush F (nI 16) dJ6_bitCount_0f7a4_43 (by decide +kernel) ?_
  refine x_iushr F ((((((((p0 - (((p0.toUInt32 >>> ((nI 1).toUInt32 &&& Int32.toUInt32 31)).toInt32) &&& (nI 1431655765))) &&& (nI 858993459)) + ((((p0 - (((p0.toUInt32 >>> ((nI 1).toUInt32 &&& Int32.toUInt32 31)).toInt32) &&& (nI 1431655765))).toUInt32 >>> ((nI 2).toUInt32 &&& Int32.toUInt32 31)).toInt32) &&& (nI 858993459))) + (((((p0 - (((p0.toUInt32 >>> ((nI 1).toUInt32 &&& Int32.toUInt32 31)).toInt32) &&& (nI 1431655765))) &&& (nI 858993459)) + ((((p0 - (((p0.toUInt32 >>> ((nI 1).toUInt32 &&& Int32.toUInt32 31)).toInt32) &&& (nI 1431655765))).toUInt32 >>> ((nI 2).toUInt32 &&& Int32.toUInt32 31)).toInt32) &&& (nI 858993459))).toUInt32 >>> ((nI 4).toUInt32 &&& Int32.toUInt32 31)).toInt32)) &&& (nI 252645135)) + (((((((p0 - (((p0.toUInt32 >>> ((nI 1).toUInt32 &&& Int32.toUInt32 31)).toInt32) &&& (nI 1431655765))) &&& (nI 858993459)) + ((((p0 - (((p0.toUInt32 >>> ((nI 1).toUInt32 &&& Int32.toUInt32 31)).toInt32) &&& (nI 1431655765))).toUInt32 >>> ((nI 2).toUInt32 &&& Int32.toUInt32 31)).toInt32) &&& (nI 858993459))) + (((((p0 - (((p0.toUInt32 >>> ((nI 1).toUInt32 &&& Int32.toUInt32 31)).toInt32) &&& (nI 1431655765))) &&& (nI 858993459)) + ((((p0 - (((p0.toUInt32 >>> ((nI 1).toUInt32 &&& Int32.toUInt32 31)).toInt32) &&& (nI 1431655765))).toUInt32 >>> ((nI 2).toUInt32 &&& Int32.toUInt32 31)).toInt32) &&& (nI 858993459))).toUInt32 >>> ((nI 4).toUInt32 &&& Int32.toUInt32 31)).toInt32)) &&& (nI 252645135)).toUInt32 >>> ((nI 8).toUInt32 &&& Int32.toUInt32 31)).toInt32)).toUInt32 >>> ((nI 16).toUInt32 &&& Int32.toUInt32 31)).toInt32) dJ6_bitCount_0f7a4_45 rfl ?_
  refine x_iadd F (((((((p0 - (((p0.toUInt32 >>> ((nI 1).toUInt32 &&& Int32.toUInt32 31)).toInt32) &&& (nI 1431655765))) &&& (nI 858993459)) + ((((p0 - (((p0.toUInt32 >>> ((nI 1).toUInt32 &&& Int32.toUInt32 31)).toInt32) &&& (nI 1431655765))).toUInt32 >>> ((nI 2).toUInt32 &&& Int32.toUInt32 31)).toInt32) &&& (nI 858993459))) + (((((p0 - (((p0.toUInt32 >>> ((nI 1).toUInt32 &&& Int32.toUInt32 31)).toInt32) &&& (nI 1431655765))) &&& (nI 858993459)) + ((((p0 - (((p0.toUInt32 >>> ((nI 1).toUInt32 &&& Int32.toUInt32 31)).toInt32) &&& (nI 1431655765))).toUInt32 >>> ((nI 2).toUInt32 &&& Int32.toUInt32 31)).toInt32) &&& (nI 858993459))).toUInt32 >>> ((nI 4).toUInt32 &&& Int32.toUInt32 31)).toInt32)) &&& (nI 252645135)) + (((((((p0 - (((p0.toUInt32 >>> ((nI 1).toUInt32 &&& Int32.toUInt32 31)).toInt32) &&& (nI 1431655765))) &&& (nI 858993459)) + ((((p0 - (((p0.toUInt32 >>> ((nI 1).toUInt32 &&& Int32.toUInt32 31)).toInt32) &&& (nI 1431655765))).toUInt32 >>> ((nI 2).toUInt32 &&& Int32.toUInt32 31)).toInt32) &&& (nI 858993459))) + (((((p0 - (((p0.toUInt32 >>> ((nI 1).toUInt32 &&& Int32.toUInt32 31)).toInt32) &&& (nI 1431655765))) &&& (nI 858993459)) + ((((p0 - (((p0.toUInt32 >>> ((nI 1).toUInt32 &&& Int32.toUInt32 31)).toInt32) &&& (nI 1431655765))).toUInt32 >>> ((nI 2).toUInt32 &&& Int32.toUInt32 31)).toInt32) &&& (nI 858993459))).toUInt32 >>> ((nI 4).toUInt32 &&& Int32.toUInt32 31)).toInt32)) &&& (nI 252645135)).toUInt32 >>> ((nI 8).toUInt32 &&& Int32.toUInt32 31)).toInt32)) + ((((((((p0 - (((p0.toUInt32 >>> ((nI 1).toUInt32 &&& Int32.toUInt32 31)).toInt32) &&& (nI 1431655765))) &&& (nI 858993459)) + ((((p0 - (((p0.toUInt32 >>> ((nI 1).toUInt32 &&& Int32.toUInt32 31)).toInt32) &&& (nI 1431655765))).toUInt32 >>> ((nI 2).toUInt32 &&& Int32.toUInt32 31)).toInt32) &&& (nI 858993459))) + (((((p0 - (((p0.toUInt32 >>> ((nI 1).toUInt32 &&& Int32.toUInt32 31)).toInt32) &&& (nI 1431655765))) &&& (nI 858993459)) + ((((p0 - (((p0.toUInt32 >>> ((nI 1).toUInt32 &&& Int32.toUInt32 31)).toInt32) &&& (nI 1431655765))).toUInt32 >>> ((nI 2).toUInt32 &&& Int32.toUInt32 31)).toInt32) &&& (nI 858993459))).toUInt32 >>> ((nI 4).toUInt32 &&& Int32.toUInt32 31)).toInt32)) &&& (nI 252645135)) + (((((((p0 - (((p0.toUInt32 >>> ((nI 1).toUInt32 &&& Int32.toUInt32 31)).toInt32) &&& (nI 1431655765))) &&& (nI 858993459)) + ((((p0 - (((p0.toUInt32 >>> ((nI 1).toUInt32 &&& Int32.toUInt32 31)).toInt32) &&& (nI 1431655765))).toUInt32 >>> ((nI 2).toUInt32 &&& Int32.toUInt32 31)).toInt32) &&& (nI 858993459))) + (((((p0 - (((p0.toUInt32 >>> ((nI 1).toUInt32 &&& Int32.toUInt32 31)).toInt32) &&& (nI 1431655765))) &&& (nI 858993459)) + ((((p0 - (((p0.toUInt32 >>> ((nI 1).toUInt32 &&& Int32.toUInt32 31)).toInt32) &&& (nI 1431655765))).toUInt32 >>> ((nI 2).toUInt32 &&& Int32.toUInt32 31)).toInt32) &&& (nI 858993459))).toUInt32 >>> ((nI 4).toUInt32 &&& Int32.toUInt32 31)).toInt32)) &&& (nI 252645135)).toUInt32 >>> ((nI 8).toUInt32 &&& Int32.toUInt32 31)).toInt32)).toUInt32 >>> ((nI 16).toUInt32 &&& Int32.toUInt32 31)).toInt32)) dJ6_bitCount_0f7a4_46 rfl ?_
  refine x_istore_n F [(0, .int (((((((p0 - (((p0.toUInt32 >>> ((nI 1).toUInt32 &&& Int32.toUInt32 31)).toInt32) &&& (nI 1431655765))) &&& (nI 858993459)) + ((((p0 - (((p0.toUInt32 >>> ((nI 1).toUInt32 &&& Int32.toUInt32 31)).toInt32) &&& (nI 1431655765))).toUInt32 >>> ((nI 2).toUInt32 &&& Int32.toUInt32 31)).toInt32) &&& (nI 858993459))) + (((((p0 - (((p0.toUInt32 >>> ((nI 1).toUInt32 &&& Int32.toUInt32 31)).toInt32) &&& (nI 1431655765))) &&& (nI 858993459)) + ((((p0 - (((p0.toUInt32 >>> ((nI 1).toUInt32 &&& Int32.toUInt32 31)).toInt32) &&& (nI 1431655765))).toUInt32 >>> ((nI 2).toUInt32 &&& Int32.toUInt32 31)).toInt32) &&& (nI 858993459))).toUInt32 >>> ((nI 4).toUInt32 &&& Int32.toUInt32 31)).toInt32)) &&& (nI 252645135)) + (((((((p0 - (((p0.toUInt32 >>> ((nI 1).toUInt32 &&& Int32.toUInt32 31)).toInt32) &&& (nI 1431655765))) &&& (nI 858993459)) + ((((p0 - (((p0.toUInt32 >>> ((nI 1).toUInt32 &&& Int32.toUInt32 31)).toInt32) &&& (nI 1431655765))).toUInt32 >>> ((nI 2).toUInt32 &&& Int32.toUInt32 31)).toInt32) &&& (nI 858993459))) + (((((p0 - (((p0.toUInt32 >>> ((nI 1).toUInt32 &&& Int32.toUInt32 31)).toInt32) &&& (nI 1431655765))) &&& (nI 858993459)) + ((((p0 - (((p0.toUInt32 >>> ((nI 1).toUInt32 &&& Int32.toUInt32 31)).toInt32) &&& (nI 1431655765))).toUInt32 >>> ((nI 2).toUInt32 &&& Int32.toUInt32 31)).toInt32) &&& (nI 858993459))).toUInt32 >>> ((nI 4).toUInt32 &&& Int32.toUInt32 31)).toInt32)) &&& (nI 252645135)).toUInt32 >>> ((nI 8).toUInt32 &&& Int32.toUInt32 31)).toInt32)) + ((((((((p0 - (((p0.toUInt32 >>> ((nI 1).toUInt32 &&& Int32.toUInt32 31)).toInt32) &&& (nI 1431655765))) &&& (nI 858993459)) + ((((p0 - (((p0.toUInt32 >>> ((nI 1).toUInt32 &&& Int32.toUInt32 31)).toInt32) &&& (nI 1431655765))).toUInt32 >>> ((nI 2).toUInt32 &&& Int32.toUInt32 31)).toInt32) &&& (nI 858993459))) + (((((p0 - (((p0.toUInt32 >>> ((nI 1).toUInt32 &&& Int32.toUInt32 31)).toInt32) &&& (nI 1431655765))) &&& (nI 858993459)) + ((((p0 - (((p0.toUInt32 >>> ((nI 1).toUInt32 &&& Int32.toUInt32 31)).toInt32) &&& (nI 1431655765))).toUInt32 >>> ((nI 2).toUInt32 &&& Int32.toUInt32 31)).toInt32) &&& (nI 858993459))).toUInt32 >>> ((nI 4).toUInt32 &&& Int32.toUInt32 31)).toInt32)) &&& (nI 252645135)) + (((((((p0 - (((p0.toUInt32 >>> ((nI 1).toUInt32 &&& Int32.toUInt32 31)).toInt32) &&& (nI 1431655765))) &&& (nI 858993459)) + ((((p0 - (((p0.toUInt32 >>> ((nI 1).toUInt32 &&& Int32.toUInt32 31)).toInt32) &&& (nI 1431655765))).toUInt32 >>> ((nI 2).toUInt32 &&& Int32.toUInt32 31)).toInt32) &&& (nI 858993459))) + (((((p0 - (((p0.toUInt32 >>> ((nI 1).toUInt32 &&& Int32.toUInt32 31)).toInt32) &&& (nI 1431655765))) &&& (nI 858993459)) + ((((p0 - (((p0.toUInt32 >>> ((nI 1).toUInt32 &&& Int32.toUInt32 31)).toInt32) &&& (nI 1431655765))).toUInt32 >>> ((nI 2).toUInt32 &&& Int32.toUInt32 31)).toInt32) &&& (nI 858993459))).toUInt32 >>> ((nI 4).toUInt32 &&& Int32.toUInt32 31)).toInt32)) &&& (nI 252645135)).toUInt32 >>> ((nI 8).toUInt32 &&& Int32.toUInt32 31)).toInt32)).toUInt32 >>> ((nI 16).toUInt32 &&& Int32.toUInt32 31)).toInt32)))] dJ6_bitCount_0f7a4_47 (by decide) rfl ?_
  refine x_iload_n F 0 dJ6_bitCount_0f7a4_48 rfl ?_
  refine x_bipush F (nI 63) dJ6_bitCount_0f7a4_49 (by decide +kernel) ?_
  refine x_iand F ((((((((p0 - (((p0.toUInt32 >>> ((nI 1).toUInt32 &&& Int32.toUInt32 31)).toInt32) &&& (nI 1431655765))) &&& (nI 858993459)) + ((((p0 - (((p0.toUInt32 >>> ((nI 1).toUInt32 &&& Int32.toUInt32 31)).toInt32) &&& (nI 1431655765))).toUInt32 >>> ((nI 2).toUInt32 &&& Int32.toUInt32 31)).toInt32) &&& (nI 858993459))) + (((((p0 - (((p0.toUInt32 >>> ((nI 1).toUInt32 &&& Int32.toUInt32 31)).toInt32) &&& (nI 1431655765))) &&& (nI 858993459)) + ((((p0 - (((p0.toUInt32 >>> ((nI 1).toUInt32 &&& Int32.toUInt32 31)).toInt32) &&& (nI 1431655765))).toUInt32 >>> ((nI 2).toUInt32 &&& Int32.toUInt32 31)).toInt32) &&& (nI 858993459))).toUInt32 >>> ((nI 4).toUInt32 &&& Int32.toUInt32 31)).toInt32)) &&& (nI 252645135)) + (((((((p0 - (((p0.toUInt32 >>> ((nI 1).toUInt32 &&& Int32.toUInt32 31)).toInt32) &&& (nI 1431655765))) &&& (nI 858993459)) + ((((p0 - (((p0.toUInt32 >>> ((nI 1).toUInt32 &&& Int32.toUInt32 31)).toInt32) &&& (nI 1431655765))).toUInt32 >>> ((nI 2).toUInt32 &&& Int32.toUInt32 31)).toInt32) &&& (nI 858993459))) + (((((p0 - (((p0.toUInt32 >>> ((nI 1).toUInt32 &&& Int32.toUInt32 31)).toInt32) &&& (nI 1431655765))) &&& (nI 858993459)) + ((((p0 - (((p0.toUInt32 >>> ((nI 1).toUInt32 &&& Int32.toUInt32 31)).toInt32) &&& (nI 1431655765))).toUInt32 >>> ((nI 2).toUInt32 &&& Int32.toUInt32 31)).toInt32) &&& (nI 858993459))).toUInt32 >>> ((nI 4).toUInt32 &&& Int32.toUInt32 31)).toInt32)) &&& (nI 252645135)).toUInt32 >>> ((nI 8).toUInt32 &&& Int32.toUInt32 31)).toInt32)) + ((((((((p0 - (((p0.toUInt32 >>> ((nI 1).toUInt32 &&& Int32.toUInt32 31)).toInt32) &&& (nI 1431655765))) &&& (nI 858993459)) + ((((p0 - (((p0.toUInt32 >>> ((nI 1).toUInt32 &&& Int32.toUInt32 31)).toInt32) &&& (nI 1431655765))).toUInt32 >>> ((nI 2).toUInt32 &&& Int32.toUInt32 31)).toInt32) &&& (nI 858993459))) + (((((p0 - (((p0.toUInt32 >>> ((nI 1).toUInt32 &&& Int32.toUInt32 31)).toInt32) &&& (nI 1431655765))) &&& (nI 858993459)) + ((((p0 - (((p0.toUInt32 >>> ((nI 1).toUInt32 &&& Int32.toUInt32 31)).toInt32) &&& (nI 1431655765))).toUInt32 >>> ((nI 2).toUInt32 &&& Int32.toUInt32 31)).toInt32) &&& (nI 858993459))).toUInt32 >>> ((nI 4).toUInt32 &&& Int32.toUInt32 31)).toInt32)) &&& (nI 252645135)) + (((((((p0 - (((p0.toUInt32 >>> ((nI 1).toUInt32 &&& Int32.toUInt32 31)).toInt32) &&& (nI 1431655765))) &&& (nI 858993459)) + ((((p0 - (((p0.toUInt32 >>> ((nI 1).toUInt32 &&& Int32.toUInt32 31)).toInt32) &&& (nI 1431655765))).toUInt32 >>> ((nI 2).toUInt32 &&& Int32.toUInt32 31)).toInt32) &&& (nI 858993459))) + (((((p0 - (((p0.toUInt32 >>> ((nI 1).toUInt32 &&& Int32.toUInt32 31)).toInt32) &&& (nI 1431655765))) &&& (nI 858993459)) + ((((p0 - (((p0.toUInt32 >>> ((nI 1).toUInt32 &&& Int32.toUInt32 31)).toInt32) &&& (nI 1431655765))).toUInt32 >>> ((nI 2).toUInt32 &&& Int32.toUInt32 31)).toInt32) &&& (nI 858993459))).toUInt32 >>> ((nI 4).toUInt32 &&& Int32.toUInt32 31)).toInt32)) &&& (nI 252645135)).toUInt32 >>> ((nI 8).toUInt32 &&& Int32.toUInt32 31)).toInt32)).toUInt32 >>> ((nI 16).toUInt32 &&& Int32.toUInt32 31)).toInt32)) &&& (nI 63)) dJ6_bitCount_0f7a4_51 rfl ?_
  exact x_iret F () (rfl) (rfl) (by omega) (by omega) dJ6_bitCount_0f7a4_52

def fl {α : Type} (f : Nat → α) (n : Nat) (v : α) : Nat → α := fun j => if j < n then v else f j
theorem fl_up (f : Nat → Int32) (i : Nat) (v : Int32) : upd (fl f i v) i v = fl f (i + 1) v := by
  funext j; unfold upd fl; by_cases h : j = i
  · subst h; simp
  · by_cases h2 : j < i
    · simp [h, h2, show j < i + 1 by omega]
    · simp [h, h2, show ¬ j < i + 1 by omega]
theorem fl_upL (f : Nat → Int64) (i : Nat) (v : Int64) : vp_updL (fl f i v) i v = fl f (i + 1) v := by
  funext j; unfold vp_updL fl; by_cases h : j = i
  · subst h; simp
  · by_cases h2 : j < i
    · simp [h, h2, show j < i + 1 by omega]
    · simp [h, h2, show ¬ j < i + 1 by omega]
theorem fl_0 {α : Type} (f : Nat → α) (v : α) : fl f 0 v = f := by funext j; simp [fl]
set_option maxHeartbeats 4000000 in
set_option maxRecDepth 100000 in
theorem c_J7_fill_53178 (l : Launch) (D : va_G) (cA : Nat → ClassId) (a n : Nat) (f : Nat → Int32) (v : Int32) (hn : n < 2 ^ 31) : Cg l D cA yJ7_fill_53178 cJ7_fill_53178 4 none 0 0 0 ([.ref a, .int v] : List Value) ([(a, .inl (cA 0, n, .inl f))]) (fun (r : Option Value) (u : Unit) => r = none) (fun u : Unit => [(a, .inl (cA 0, n, .inl (fl f n v)))]) := by
  refine x_met (by decide +kernel) rfl (Nat.le_of_ble_eq_true rfl) ?_
  intro xp xe xs xm xbl xme xco F hnm
  refine x_lv [(0, .ref a), (1, .int v)] [0, 1] rfl ?_
  refine x_iconst F (nI 0) dJ7_fill_53178_0 (by decide +kernel) ?_
  refine x_istore_n F [(2, .int (nI 0)), (0, .ref a), (1, .int v)] dJ7_fill_53178_1 (by decide) rfl ?_
  refine x_aload_n F 1 dJ7_fill_53178_2 rfl ?_
  refine x_alen F 0 0 rfl rfl (nI n) rfl dJ7_fill_53178_3 ?_
  refine x_istore_n F [(3, .int (nI n)), (2, .int (nI 0)), (0, .ref a), (1, .int v)] dJ7_fill_53178_4 (by decide) rfl ?_
  have e0 : f = fl f 0 v := (fl_0 f v).symm
  refine x_ws ([(a, .inl (cA 0, n, .inl (fl f 0 v)))]) (by rw [fl_0]) ?_
  refine x_lv [(0, .ref a), (1, .int v), (2, .int (nI 0)), (3, .int (nI n))] [2, 3, 1, 0] rfl ?_
  have loop : ∀ (nn5 : Nat) (i : Nat), (i ≤ n) → (n - i < nn5) → Wx xp l xe (rmL 0 0 0) xs xm ([.ref a, .int v] : List Value).toArray xbl xme xco 0 0 (xQ xbl D ([(a, .inl (cA 0, n, .inl f))]) xs ([.ref a, .int v] : List Value).toArray 0 0 (fun (r : Option Value) (u : Unit) => r = none) (fun u : Unit => [(a, .inl (cA 0, n, .inl (fl f n v)))])) 4 D (va_A ([(a, .inl (cA 0, n, .inl f))]) xs.heap.size) 5 [(0, .ref a), (1, .int v), (2, .int (nI i)), (3, .int (nI n))] [] ([(a, .inl (cA 0, n, .inl (fl f i v)))]) := by
    intro nn5
    induction nn5 with
    | zero =>
      intro i hi hm5
      exact absurd hm5 (Nat.not_lt_zero _)
    | succ nn5 ih5 =>
      intro i hi hm5
      refine x_iload_n F 2 dJ7_fill_53178_5 rfl ?_
      refine x_iload_n F 3 dJ7_fill_53178_6 rfl ?_
      refine x_icmp_ge F 20 dJ7_fill_53178_7 (by decide) (fun h7 => ?_) (fun h7 => ?_)
      · have h7n : n ≤ i := (nI_leI (by omega) (by omega)).mp h7
        have hi : i = n := by omega
        subst hi
        exact x_vret F () (rfl) (rfl) (by omega) (by omega) dJ7_fill_53178_20
      · have h7n : ¬ n ≤ i := fun z => h7 ((nI_leI (by omega) (by omega)).mpr z)
        refine x_aload_n F 0 dJ7_fill_53178_10 rfl ?_
        refine x_iload_n F 2 dJ7_fill_53178_11 rfl ?_
        refine x_iload_n F 1 dJ7_fill_53178_12 rfl ?_
        refine x_iast F 0 (k := i) ([(a, .inl (cA 0, n, .inl (upd (fl f i v) i v)))]) rfl (by omega) (by omega) rfl dJ7_fill_53178_13 ?_
        rw [fl_up]
        refine x_iinc F (nI (i + 1)) 2 [(2, .int (nI (i + 1))), (0, .ref a), (1, .int v), (3, .int (nI n))] dJ7_fill_53178_14 rfl ((nI_add i 1)) (by decide) rfl ?_
        refine x_goto F 5 dJ7_fill_53178_17 (by decide) ?_
        refine x_lv [(0, .ref a), (1, .int v), (2, .int (nI (i + 1))), (3, .int (nI n))] [1, 2, 0, 3] rfl ?_
        exact ih5 (i + 1) (by omega) (by omega)
  exact loop _ 0 (Nat.zero_le _) (Nat.lt_succ_self _)

set_option maxHeartbeats 4000000 in
set_option maxRecDepth 100000 in
theorem c_J7_fill_d0a16 (l : Launch) (D : va_G) (cA : Nat → ClassId) (a n : Nat) (f : Nat → Int64) (v : Int64) (hn : n < 2 ^ 31) : Cg l D cA yJ7_fill_d0a16 cJ7_fill_d0a16 5 none 0 0 0 ([.ref a, .long v] : List Value) ([(a, .inl (cA 1, n, .inr (.inl f)))]) (fun (r : Option Value) (u : Unit) => r = none) (fun u : Unit => [(a, .inl (cA 1, n, .inr (.inl (fl f n v))))]) := by
  refine x_met (by decide +kernel) rfl (Nat.le_of_ble_eq_true rfl) ?_
  intro xp xe xs xm xbl xme xco F hnm
  refine x_lv [(0, .ref a), (1, .long v)] [0, 1] rfl ?_
  refine x_iconst F (nI 0) dJ7_fill_d0a16_0 (by decide +kernel) ?_
  refine x_istore_n F [(3, .int (nI 0)), (0, .ref a), (1, .long v)] dJ7_fill_d0a16_1 (by decide) rfl ?_
  refine x_aload_n F 1 dJ7_fill_d0a16_2 rfl ?_
  refine x_alen F 0 1 rfl rfl (nI n) rfl dJ7_fill_d0a16_3 ?_
  refine x_istore F [(4, .int (nI n)), (3, .int (nI 0)), (0, .ref a), (1, .long v)] dJ7_fill_d0a16_4 (by decide) rfl ?_
  have e0 : f = fl f 0 v := (fl_0 f v).symm
  refine x_ws ([(a, .inl (cA 1, n, .inr (.inl (fl f 0 v))))]) (by rw [fl_0]) ?_
  refine x_lv [(0, .ref a), (1, .long v), (3, .int (nI 0)), (4, .int (nI n))] [2, 3, 1, 0] rfl ?_
  have loop : ∀ (nn6 : Nat) (i : Nat), (i ≤ n) → (n - i < nn6) → Wx xp l xe (rmL 0 0 0) xs xm ([.ref a, .long v] : List Value).toArray xbl xme xco 0 0 (xQ xbl D ([(a, .inl (cA 1, n, .inr (.inl f)))]) xs ([.ref a, .long v] : List Value).toArray 0 0 (fun (r : Option Value) (u : Unit) => r = none) (fun u : Unit => [(a, .inl (cA 1, n, .inr (.inl (fl f n v))))])) 5 D (va_A ([(a, .inl (cA 1, n, .inr (.inl f)))]) xs.heap.size) 6 [(0, .ref a), (1, .long v), (3, .int (nI i)), (4, .int (nI n))] [] ([(a, .inl (cA 1, n, .inr (.inl (fl f i v))))]) := by
    intro nn6
    induction nn6 with
    | zero =>
      intro i hi hm6
      exact absurd hm6 (Nat.not_lt_zero _)
    | succ nn6 ih6 =>
      intro i hi hm6
      refine x_iload_n F 2 dJ7_fill_d0a16_6 rfl ?_
      refine x_iload F 3 dJ7_fill_d0a16_7 rfl ?_
      refine x_icmp_ge F 22 dJ7_fill_d0a16_9 (by decide) (fun h9 => ?_) (fun h9 => ?_)
      · have h9n : n ≤ i := (nI_leI (by omega) (by omega)).mp h9
        have hi : i = n := by omega
        subst hi
        exact x_vret F () (rfl) (rfl) (by omega) (by omega) dJ7_fill_d0a16_22
      · have h9n : ¬ n ≤ i := fun z => h9 ((nI_leI (by omega) (by omega)).mpr z)
        refine x_aload_n F 0 dJ7_fill_d0a16_12 rfl ?_
        refine x_iload_n F 2 dJ7_fill_d0a16_13 rfl ?_
        refine x_lload_n F 1 dJ7_fill_d0a16_14 rfl ?_
        refine x_last F 0 (k := i) ([(a, .inl (cA 1, n, .inr (.inl (vp_updL (fl f i v) i v))))]) rfl (by omega) (by omega) rfl dJ7_fill_d0a16_15 ?_
        rw [fl_upL]
        refine x_iinc F (nI (i + 1)) 2 [(3, .int (nI (i + 1))), (0, .ref a), (1, .long v), (4, .int (nI n))] dJ7_fill_d0a16_16 rfl ((nI_add i 1)) (by decide) rfl ?_
        refine x_goto F 6 dJ7_fill_d0a16_19 (by decide) ?_
        refine x_lv [(0, .ref a), (1, .long v), (3, .int (nI (i + 1))), (4, .int (nI n))] [1, 2, 0, 3] rfl ?_
        exact ih6 (i + 1) (by omega) (by omega)
  exact loop _ 0 (Nat.zero_le _) (Nat.lt_succ_self _)

