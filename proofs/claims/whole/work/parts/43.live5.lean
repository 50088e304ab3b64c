/-! the class: marks, going back, fact -/
set_option maxHeartbeats 4000000 in
set_option maxRecDepth 100000 in
theorem c_X4_mark_1 (l : Launch) (D : va_G) (cA : Nat → ClassId) (ax : Nat → Nat) (lo la ot : Nat) (MX : Nat → Nat → Int32) (sv : Nat → Option Nat) (as_ : Nat → Nat) (L : Nat) (MS : Nat → Nat → Int32) (JS : Nat → Nat → Int64) (mk : Nat → Option Nat) (ad : Nat → Nat) (M : Nat → Nat → Int32) (am : Nat → Nat) (MM : Nat → Nat → Int32) (JM : Nat → Nat → Int64) (ns s_ k : Nat) (hns : MX 4 0 = nI ns) (hn3 : ns ≤ 3) (hs : s_ < ns) (ha : sv s_ = some (as_ 100)) (hk2 : k < 2) (hmk : mk k = some (am 100)) (hL : L < 2 ^ 31) : Cg l D cA yX4_mark cX4_mark 4 (some .int) 2 0 0 ([.ref (ax 100), .int (nI s_), .int (nI k)] : List Value) ((wX cA ax lo la ot MX sv) ++ (wS cA as_ (ad 100) L MS JS mk) ++ (wF cA ad M) ++ (wM cA am L MM JM)) (fun (r : Option Value) (u : (Nat → Nat → Int32) × (Nat → Nat → Int64)) => r = some (.int (M 0 0)) ∧ u.1 = va_up (va_up (st2 MM 0 0 (M 0 0)) 1 (va_cpy (MS 1) (MM 1) 0 0 16)) 2 (va_cpy (MS 2) (MM 2) 0 0 16) ∧ u.2 = va_up JM 3 (va_cpy (JS 3) (JM 3) 0 0 L)) (fun u : (Nat → Nat → Int32) × (Nat → Nat → Int64) => (wX cA ax lo la ot MX sv) ++ (wS cA as_ (ad 100) L MS JS mk) ++ (wF cA ad M) ++ (wM cA am L u.1 u.2)) := by
  refine x_met (by decide +kernel) rfl (Nat.le_of_ble_eq_true rfl) ?_
  intro xp xe xs xm xbl xme xco F hnm
  refine x_lv [(0, .ref (ax 100)), (1, .int (nI s_)), (2, .int (nI k))] [0, 1, 2] rfl ?_
  refine x_aload_n F 0 dX4_mark_0 rfl ?_
  refine x_iload_n F 1 dX4_mark_1 rfl ?_
  refine x_callVr F [] [0, 1] (c_X4_solveOf1 l D cA ax lo la ot MX sv ns s_ (as_ 100) hns hn3 hs ha) mwX4_solveOf wmX4_68 rfl (q0 := 0) rfl rfl rfl (Nat.le_of_ble_eq_true rfl) ⟨by decide, by decide⟩ ⟨by show _ ≤ 0; omega, by show _ ≤ 0; omega⟩ rfl (by decide) dX4_mark_2 (fun r1 hp2 => ?_)
  subst hp2
  refine x_astore_n F [(3, .ref (as_ 100)), (0, .ref (ax 100)), (1, .int (nI s_)), (2, .int (nI k))] dX4_mark_5 (by decide) rfl ?_
  refine x_aload_n F 0 dX4_mark_6 rfl ?_
  refine x_ifnull_r F dX4_mark_7 ?_
  refine x_iload_n F 3 dX4_mark_10 rfl ?_
  refine x_callSr F [] [] (c_X4_isMark l D cA (nI k)) mwX4_isMark wmX4_83 rfl rfl (Nat.le_of_ble_eq_true rfl) ⟨by decide, by decide⟩ ⟨by show _ ≤ 0; omega, by show _ ≤ 0; omega⟩ rfl (by decide) dX4_mark_11 (fun r3 hp4 => ?_)
  subst hp4
  refine x_if_ne F 20 dX4_mark_14 (by decide) (fun h14 => ?_) (fun h14 => ?_)
  · refine x_aload_n F 0 dX4_mark_20 rfl ?_
    refine x_get F inUX3 2 4 rfl rfl (by decide) wfX4_86 rfl dX4_mark_21 ?_
    refine x_iload_n F 3 dX4_mark_24 rfl ?_
    refine x_aald3 F 6 (k := k) rfl (by omega) (by decide) dX4_mark_25 ?_
    rw [hmk]
    refine x_ifnonnull_r F 47 dX4_mark_26 (by decide) ?_
    refine x_aload_n F 0 dX4_mark_47 rfl ?_
    refine x_aload_n F 0 dX4_mark_48 rfl ?_
    refine x_get F inUX3 2 4 rfl rfl (by decide) wfX4_86 rfl dX4_mark_49 ?_
    refine x_iload_n F 3 dX4_mark_52 rfl ?_
    refine x_aald3 F 6 (k := k) rfl (by omega) (by decide) dX4_mark_53 ?_
    rw [hmk]
    refine x_callV F [] (wX cA ax lo la ot MX sv) [2, 3, 4, 5, 6, 7, 8, 9, 10, 11, 12, 13, 14, 15, 16, 17, 18, 19, 20, 21] [0, 1] (c_X3_keepIn l D cA as_ L MS JS mk ad M am MM JM hL) mwX3_keepIn wmX4_99 rfl (q0 := 0) rfl rfl rfl (Nat.le_of_ble_eq_true rfl) ⟨by decide, by decide⟩ ⟨by show _ ≤ 0; omega, by show _ ≤ 0; omega⟩ rfl rfl (by decide) (by decide) (by decide) dX4_mark_54 (fun r5 u6 hp7 => ?_)
    obtain ⟨rfl, eu1, eu2⟩ := hp7
    refine x_aload_n F 0 dX4_mark_57 rfl ?_
    refine x_get F inUX3 2 0 rfl rfl (by decide) wfX4_103 rfl dX4_mark_58 ?_
    refine x_get F inUX0 8 0 rfl rfl (by decide) wfX4_106 rfl dX4_mark_61 ?_
    exact x_iret F u6 (⟨rfl, eu1, eu2⟩) (rfl) (by omega) (by omega) dX4_mark_64
  · exact absurd (wn_in (n := 1) (show k ≤ 1 by omega) (by decide)) (bz_0.mp h14)

set_option maxHeartbeats 4000000 in
set_option maxRecDepth 100000 in
theorem c_X4_mark_0 (l : Launch) (D : va_G) (cA : Nat → ClassId) (ax : Nat → Nat) (lo la ot : Nat) (MX : Nat → Nat → Int32) (sv : Nat → Option Nat) (as_ : Nat → Nat) (L : Nat) (MS : Nat → Nat → Int32) (JS : Nat → Nat → Int64) (mk : Nat → Option Nat) (ad : Nat → Nat) (M : Nat → Nat → Int32) (ns s_ k : Nat) (hns : MX 4 0 = nI ns) (hn3 : ns ≤ 3) (hs : s_ < ns) (ha : sv s_ = some (as_ 100)) (hk2 : k < 2) (hmk : mk k = none) (hL : L ≤ 8) : Cg l D cA yX4_mark cX4_mark 4 (some .int) 2 4 44 ([.ref (ax 100), .int (nI s_), .int (nI k)] : List Value) ((wX cA ax lo la ot MX sv) ++ (wS cA as_ (ad 100) L MS JS mk) ++ (wF cA ad M)) (fun (r : Option Value) (u : (Nat → Nat) × (Nat → Nat → Int32) × (Nat → Nat → Int64)) => r = some (.int (M 0 0)) ∧ u.2.1 = va_up (va_up (st2 (fun _ _ => 0) 0 0 (M 0 0)) 1 (va_cpy (MS 1) ((fun _ _ => 0) 1) 0 0 16)) 2 (va_cpy (MS 2) ((fun _ _ => 0) 2) 0 0 16) ∧ u.2.2 = va_up (fun _ _ => 0) 3 (va_cpy (JS 3) ((fun _ _ => 0) 3) 0 0 L)) (fun u : (Nat → Nat) × (Nat → Nat → Int32) × (Nat → Nat → Int64) => (wX cA ax lo la ot MX sv) ++ (wS cA as_ (ad 100) L MS JS (va_up mk k (some (u.1 100)))) ++ (wF cA ad M) ++ (wM cA u.1 L u.2.1 u.2.2)) := by
  refine x_met (by decide +kernel) rfl (Nat.le_of_ble_eq_true rfl) ?_
  intro xp xe xs xm xbl xme xco F hnm
  refine x_lv [(0, .ref (ax 100)), (1, .int (nI s_)), (2, .int (nI k))] [0, 1, 2] rfl ?_
  have hL : L ≤ 8 := hL
  refine x_aload_n F 0 dX4_mark_0 rfl ?_
  refine x_iload_n F 1 dX4_mark_1 rfl ?_
  refine x_callVr F [] [0, 1] (c_X4_solveOf1 l D cA ax lo la ot MX sv ns s_ (as_ 100) hns hn3 hs ha) mwX4_solveOf wmX4_68 rfl (q0 := 0) rfl rfl rfl (Nat.le_of_ble_eq_true rfl) ⟨by decide, by decide⟩ ⟨by show _ ≤ 4; omega, by show _ ≤ 44; omega⟩ rfl (by decide) dX4_mark_2 (fun r1 hp2 => ?_)
  subst hp2
  refine x_astore_n F [(3, .ref (as_ 100)), (0, .ref (ax 100)), (1, .int (nI s_)), (2, .int (nI k))] dX4_mark_5 (by decide) rfl ?_
  refine x_aload_n F 0 dX4_mark_6 rfl ?_
  refine x_ifnull_r F dX4_mark_7 ?_
  refine x_iload_n F 3 dX4_mark_10 rfl ?_
  refine x_callSr F [] [] (c_X4_isMark l D cA (nI k)) mwX4_isMark wmX4_83 rfl rfl (Nat.le_of_ble_eq_true rfl) ⟨by decide, by decide⟩ ⟨by show _ ≤ 4; omega, by show _ ≤ 44; omega⟩ rfl (by decide) dX4_mark_11 (fun r3 hp4 => ?_)
  subst hp4
  refine x_if_ne F 20 dX4_mark_14 (by decide) (fun h14 => ?_) (fun h14 => ?_)
  · refine x_aload_n F 0 dX4_mark_20 rfl ?_
    refine x_get F inUX3 2 4 rfl rfl (by decide) wfX4_86 rfl dX4_mark_21 ?_
    refine x_iload_n F 3 dX4_mark_24 rfl ?_
    refine x_aald3 F 6 (k := k) rfl (by omega) (by decide) dX4_mark_25 ?_
    rw [hmk]
    refine x_ifnonnull_n F dX4_mark_26 ?_
    refine x_aload_n F 0 dX4_mark_29 rfl ?_
    refine x_get F inUX3 2 4 rfl rfl (by decide) wfX4_86 rfl dX4_mark_30 ?_
    refine x_iload_n F 3 dX4_mark_33 rfl ?_
    refine x_new F [.int 0, .null, .null, .null] inUX2 tyX2_ok wkX4_90 wjX2 wnX2 (ci := 2) rfl (by intro j hj; match j, hj with | 0, _ => rfl | 1, _ => rfl | 2, _ => rfl | 3, _ => rfl | j + 4, h => omega) (by show _ ≤ 4; omega) (by show _ ≤ 44; omega) dX4_mark_34 (fun q5 => ?_)
    refine x_dup F dX4_mark_37 rfl ?_
    refine x_aload_n F 0 dX4_mark_38 rfl ?_
    refine x_get F inUX3 2 3 rfl rfl (by decide) wfX4_92 rfl dX4_mark_39 ?_
    refine x_alen F 5 1 rfl rfl (nI L) rfl dX4_mark_42 ?_
    refine x_callI F [.ref q5, .int (nI k), .ref (as_ 4)] ((wX cA ax lo la ot MX sv) ++ (wS cA as_ (ad 100) L MS JS mk) ++ (wF cA ad M)) [18] [0, 1, 2, 3, 4, 5, 6, 7, 8, 9, 10, 11, 12, 13, 14, 15, 16, 17] (c_X2_init l D cA q5 L hL) mwX2_init wmX4_96 rfl rfl (Nat.le_of_ble_eq_true rfl) ⟨by decide, by decide⟩ ⟨by show _ ≤ 4; omega, by show _ ≤ 44; omega⟩ rfl rfl (by decide) (by decide) (by decide) dX4_mark_43 (fun r6 u7 hp8 => ?_)
    obtain ⟨am, eam⟩ : ∃ z, z = u7 := ⟨_, rfl⟩
    obtain ⟨rfl, ham⟩ := hp8
    rw [← eam] at ham ⊢
    subst ham
    refine x_ws ((wX cA ax lo la ot MX sv) ++ (wS cA as_ (ad 100) L MS JS mk) ++ (wF cA ad M) ++ (wM cA am L (fun _ _ => 0) (fun _ _ => 0))) rfl ?_
    refine x_aast3 F 6 18 (k := k) ((wX cA ax lo la ot MX sv) ++ (wS cA as_ (ad 100) L MS JS (va_up mk k (some (am 100)))) ++ (wF cA ad M) ++ (wM cA am L (fun _ _ => 0) (fun _ _ => 0))) rfl rfl (by omega) (by decide) rfl dX4_mark_46 ?_
    refine x_aload_n F 0 dX4_mark_47 rfl ?_
    refine x_aload_n F 0 dX4_mark_48 rfl ?_
    refine x_get F inUX3 2 4 rfl rfl (by decide) wfX4_86 rfl dX4_mark_49 ?_
    refine x_iload_n F 3 dX4_mark_52 rfl ?_
    refine x_aald3 F 6 (k := k) rfl (by omega) (by decide) dX4_mark_53 ?_
    rw [show va_up mk k (some (am 100)) k = some (am 100) from if_pos rfl]
    refine x_callV F [] (wX cA ax lo la ot MX sv) [2, 3, 4, 5, 6, 7, 8, 9, 10, 11, 12, 13, 14, 15, 16, 17, 18, 19, 20, 21] [0, 1] (c_X3_keepIn l D cA as_ L MS JS (va_up mk k (some (am 100))) ad M am (fun _ _ => 0) (fun _ _ => 0) (by omega)) mwX3_keepIn wmX4_99 rfl (q0 := 0) rfl rfl rfl (Nat.le_of_ble_eq_true rfl) ⟨by decide, by decide⟩ ⟨by show _ ≤ 4; omega, by show _ ≤ 44; omega⟩ rfl rfl (by decide) (by decide) (by decide) dX4_mark_54 (fun r9 u10 hp11 => ?_)
    obtain ⟨rfl, eu1, eu2⟩ := hp11
    refine x_aload_n F 0 dX4_mark_57 rfl ?_
    refine x_get F inUX3 2 0 rfl rfl (by decide) wfX4_103 rfl dX4_mark_58 ?_
    refine x_get F inUX0 8 0 rfl rfl (by decide) wfX4_106 rfl dX4_mark_61 ?_
    exact x_iret F (am, u10.1, u10.2) (⟨rfl, eu1, eu2⟩) (rfl) (by omega) (by omega) dX4_mark_64
  · exact absurd (wn_in (n := 1) (show k ≤ 1 by omega) (by decide)) (bz_0.mp h14)

set_option maxHeartbeats 4000000 in
set_option maxRecDepth 100000 in
theorem c_X4_back_0 (l : Launch) (D : va_G) (cA : Nat → ClassId) (ax : Nat → Nat) (lo la ot : Nat) (MX : Nat → Nat → Int32) (sv : Nat → Option Nat) (as_ : Nat → Nat) (L : Nat) (MS : Nat → Nat → Int32) (JS : Nat → Nat → Int64) (mk : Nat → Option Nat) (fo ns s_ k : Nat) (hns : MX 4 0 = nI ns) (hn3 : ns ≤ 3) (hs : s_ < ns) (ha : sv s_ = some (as_ 100)) (hk2 : k < 2) (hmk : mk k = none) : Cr l D cA yX4_back cX4_back 5 (some .int) 2 ([.ref (ax 100), .int (nI s_), .int (nI k)] : List Value) ((wX cA ax lo la ot MX sv) ++ (wS cA as_ fo L MS JS mk)) (fun r : Option Value => r = some (.int (-3))) := by
  refine x_met (by decide +kernel) rfl (Nat.le_of_ble_eq_true rfl) ?_
  intro xp xe xs xm xbl xme xco F hnm
  refine x_lv [(0, .ref (ax 100)), (1, .int (nI s_)), (2, .int (nI k))] [0, 1, 2] rfl ?_
  refine x_aload_n F 0 dX4_back_0 rfl ?_
  refine x_iload_n F 1 dX4_back_1 rfl ?_
  refine x_callVr F [] [0, 1] (c_X4_solveOf1 l D cA ax lo la ot MX sv ns s_ (as_ 100) hns hn3 hs ha) mwX4_solveOf wmX4_68 rfl (q0 := 0) rfl rfl rfl (Nat.le_of_ble_eq_true rfl) ⟨by decide, by decide⟩ ⟨by show _ ≤ 0; omega, by show _ ≤ 0; omega⟩ rfl (by decide) dX4_back_2 (fun r1 hp2 => ?_)
  subst hp2
  refine x_astore_n F [(3, .ref (as_ 100)), (0, .ref (ax 100)), (1, .int (nI s_)), (2, .int (nI k))] dX4_back_5 (by decide) rfl ?_
  refine x_aload_n F 0 dX4_back_6 rfl ?_
  refine x_ifnull_r F dX4_back_7 ?_
  refine x_iload_n F 3 dX4_back_10 rfl ?_
  refine x_callSr F [] [] (c_X4_isMark l D cA (nI k)) mwX4_isMark wmX4_83 rfl rfl (Nat.le_of_ble_eq_true rfl) ⟨by decide, by decide⟩ ⟨by show _ ≤ 0; omega, by show _ ≤ 0; omega⟩ rfl (by decide) dX4_back_11 (fun r3 hp4 => ?_)
  subst hp4
  refine x_if_ne F 20 dX4_back_14 (by decide) (fun h14 => ?_) (fun h14 => ?_)
  · refine x_aload_n F 0 dX4_back_20 rfl ?_
    refine x_get F inUX3 2 4 rfl rfl (by decide) wfX4_86 rfl dX4_back_21 ?_
    refine x_iload_n F 3 dX4_back_24 rfl ?_
    refine x_aald3 F 6 (k := k) rfl (by omega) (by decide) dX4_back_25 ?_
    rw [hmk]
    refine x_astoreN F [(4, .null), (3, .ref (as_ 100)), (0, .ref (ax 100)), (1, .int (nI s_)), (2, .int (nI k))] dX4_back_26 (by decide) rfl ?_
    refine x_aloadN F 0 dX4_back_28 rfl ?_
    refine x_ifnonnull_n F dX4_back_30 ?_
    refine x_bipush F (-3) dX4_back_33 (by decide +kernel) ?_
    exact x_iret F () (rfl) (rfl) (by omega) (by omega) dX4_back_35
  · exact absurd (wn_in (n := 1) (show k ≤ 1 by omega) (by decide)) (bz_0.mp h14)

set_option maxHeartbeats 4000000 in
set_option maxRecDepth 100000 in
theorem c_X4_back_1 (l : Launch) (D : va_G) (cA : Nat → ClassId) (ax : Nat → Nat) (la ot : Nat) (MX : Nat → Nat → Int32) (sv : Nat → Option Nat) (al : Nat → Nat) (ML : Nat → Nat → Int32) (as_ : Nat → Nat) (L : Nat) (MS : Nat → Nat → Int32) (JS : Nat → Nat → Int64) (mk : Nat → Option Nat) (ad : Nat → Nat) (M : Nat → Nat → Int32) (am : Nat → Nat) (MM : Nat → Nat → Int32) (JM : Nat → Nat → Int64) (ns s_ k n kn cnt : Nat) (hns : MX 4 0 = nI ns) (hn3 : ns ≤ 3) (hs : s_ < ns) (ha : sv s_ = some (as_ 100)) (hk2 : k < 2) (hmk : mk k = some (am 100)) (hc : ML 5 0 = nI cnt) (hcn : cnt ≤ 120) (hkn : M 0 0 = nI kn) (hkc : kn ≤ cnt) (hm : MM 0 0 = nI n) (hnc : n ≤ cnt) (hwf : ∀ i, i < cnt → wfE ML i) (hL : L < 2 ^ 31) : Cg l D cA yX4_back cX4_back 5 (some .int) 6 0 0 ([.ref (ax 100), .int (nI s_), .int (nI k)] : List Value) ((wX cA ax (al 100) la ot MX sv) ++ (wS cA as_ (ad 100) L MS JS mk) ++ (wF cA ad M) ++ (wL cA al ML) ++ (wM cA am L MM JM)) (fun (r : Option Value) (u : SJM) => r = some (.int (nI n)) ∧ u = if kn ≤ n then backS ML kn n L MM JM (MS, JS, M) else catchS ML n kn L (backS ML kn n L MM JM (MS, JS, M))) (fun u : SJM => (wX cA ax (al 100) la ot MX sv) ++ (wS cA as_ (ad 100) L (u.1) (u.2.1) mk) ++ (wF cA ad (u.2.2)) ++ (wL cA al ML) ++ (wM cA am L MM JM)) := by
  refine x_met (by decide +kernel) rfl (Nat.le_of_ble_eq_true rfl) ?_
  intro xp xe xs xm xbl xme xco F hnm
  refine x_lv [(0, .ref (ax 100)), (1, .int (nI s_)), (2, .int (nI k))] [0, 1, 2] rfl ?_
  refine x_aload_n F 0 dX4_back_0 rfl ?_
  refine x_iload_n F 1 dX4_back_1 rfl ?_
  refine x_callVr F [] [0, 1] (c_X4_solveOf1 l D cA ax (al 100) la ot MX sv ns s_ (as_ 100) hns hn3 hs ha) mwX4_solveOf wmX4_68 rfl (q0 := 0) rfl rfl rfl (Nat.le_of_ble_eq_true rfl) ⟨by decide, by decide⟩ ⟨by show _ ≤ 0; omega, by show _ ≤ 0; omega⟩ rfl (by decide) dX4_back_2 (fun r1 hp2 => ?_)
  subst hp2
  refine x_astore_n F [(3, .ref (as_ 100)), (0, .ref (ax 100)), (1, .int (nI s_)), (2, .int (nI k))] dX4_back_5 (by decide) rfl ?_
  refine x_aload_n F 0 dX4_back_6 rfl ?_
  refine x_ifnull_r F dX4_back_7 ?_
  refine x_iload_n F 3 dX4_back_10 rfl ?_
  refine x_callSr F [] [] (c_X4_isMark l D cA (nI k)) mwX4_isMark wmX4_83 rfl rfl (Nat.le_of_ble_eq_true rfl) ⟨by decide, by decide⟩ ⟨by show _ ≤ 0; omega, by show _ ≤ 0; omega⟩ rfl (by decide) dX4_back_11 (fun r3 hp4 => ?_)
  subst hp4
  refine x_if_ne F 20 dX4_back_14 (by decide) (fun h14 => ?_) (fun h14 => ?_)
  · refine x_aload_n F 0 dX4_back_20 rfl ?_
    refine x_get F inUX3 2 4 rfl rfl (by decide) wfX4_86 rfl dX4_back_21 ?_
    refine x_iload_n F 3 dX4_back_24 rfl ?_
    refine x_aald3 F 6 (k := k) rfl (by omega) (by decide) dX4_back_25 ?_
    rw [hmk]
    refine x_astore F [(4, .ref (am 100)), (3, .ref (as_ 100)), (0, .ref (ax 100)), (1, .int (nI s_)), (2, .int (nI k))] dX4_back_26 (by decide) rfl ?_
    refine x_aload F 0 dX4_back_28 rfl ?_
    refine x_ifnonnull_r F 36 dX4_back_30 (by decide) ?_
    refine x_aload_n F 1 dX4_back_36 rfl ?_
    refine x_aload F 0 dX4_back_37 rfl ?_
    refine x_aload_n F 2 dX4_back_39 rfl ?_
    refine x_get F inUX4 0 0 rfl rfl (by decide) wfX4_10 rfl dX4_back_40 ?_
    refine x_callV F [] (wX cA ax (al 100) la ot MX sv) [2, 3, 4, 5, 6, 7, 8, 9, 10, 11, 12, 13, 14, 15, 16, 17, 18, 19, 20, 21, 22, 23, 24, 25, 26, 27] [0, 1] (c_X3_goBackTo l D cA as_ L MS JS mk ad M al ML am MM JM n kn cnt hc hcn hkn hkc hm hnc hwf hL) mwX3_goBackTo wmX4_109 rfl (q0 := 0) rfl rfl rfl (Nat.le_of_ble_eq_true rfl) ⟨by decide, by decide⟩ ⟨by show _ ≤ 0; omega, by show _ ≤ 0; omega⟩ rfl rfl (by decide) (by decide) (by decide) dX4_back_43 (fun r5 u6 hp7 => ?_)
    obtain ⟨rfl, eu⟩ := hp7
    refine x_aload F 0 dX4_back_46 rfl ?_
    refine x_get F inUX2 24 0 rfl rfl (by decide) wfX4_113 rfl dX4_back_48 ?_
    refine x_top (nI n) (hm) ?_
    exact x_iret F u6 (⟨rfl, eu⟩) (rfl) (by omega) (by omega) dX4_back_51
  · exact absurd (wn_in (n := 1) (show k ≤ 1 by omega) (by decide)) (bz_0.mp h14)

set_option maxHeartbeats 4000000 in
set_option maxRecDepth 100000 in
theorem c_X4_countOf_0 (l : Launch) (D : va_G) (cA : Nat → ClassId) (ax : Nat → Nat) (ot : Nat) (MX : Nat → Nat → Int32) (sv : Nat → Option Nat) (al : Nat → Nat) (ML : Nat → Nat → Int32) (ad : Nat → Nat) (M : Nat → Nat → Int32)  : Cr l D cA yX4_countOf cX4_countOf 2 (some .int) 1 ([.ref (ax 100), .int (nI 0)] : List Value) ((wX cA ax (al 100) (ad 100) ot MX sv) ++ (wL cA al ML) ++ (wF cA ad M)) (fun r : Option Value => r = some (.int (nI (thc M 16)))) := by
  refine x_met (by decide +kernel) rfl (Nat.le_of_ble_eq_true rfl) ?_
  intro xp xe xs xm xbl xme xco F hnm
  refine x_lv [(0, .ref (ax 100)), (1, .int (nI 0))] [0, 1] rfl ?_
  refine x_iload_n F 1 dX4_countOf_0 rfl ?_
  refine x_top (nI 0) (rfl) ?_
  refine x_tableIn F 32 dX4_countOf_1 (by decide +kernel) (by decide +kernel) (off := 31) (by decide +kernel) (by decide) ?_
  refine x_aload_n F 0 dX4_countOf_32 rfl ?_
  refine x_get F inUX4 0 1 rfl rfl (by decide) wfX4_19 rfl dX4_countOf_33 ?_
  refine x_callVr F [] [8, 9, 10, 11, 12, 13, 14, 15, 16, 17] (c_X0_countThere l D cA ad M) mwX0_countThere wmX4_175 rfl (q0 := 0) rfl rfl rfl (Nat.le_of_ble_eq_true rfl) ⟨by decide, by decide⟩ ⟨by show _ ≤ 0; omega, by show _ ≤ 0; omega⟩ rfl (by decide) dX4_countOf_36 (fun r1 hp2 => ?_)
  subst hp2
  exact x_iret F () (rfl) (rfl) (by omega) (by omega) dX4_countOf_39

set_option maxHeartbeats 4000000 in
set_option maxRecDepth 100000 in
theorem c_X4_countOf_1 (l : Launch) (D : va_G) (cA : Nat → ClassId) (ax : Nat → Nat) (ot : Nat) (MX : Nat → Nat → Int32) (sv : Nat → Option Nat) (al : Nat → Nat) (ML : Nat → Nat → Int32) (ad : Nat → Nat) (M : Nat → Nat → Int32)  : Cr l D cA yX4_countOf cX4_countOf 2 (some .int) 1 ([.ref (ax 100), .int (nI 1)] : List Value) ((wX cA ax (al 100) (ad 100) ot MX sv) ++ (wL cA al ML) ++ (wF cA ad M)) (fun r : Option Value => r = some (.int (M 1 0))) := by
  refine x_met (by decide +kernel) rfl (Nat.le_of_ble_eq_true rfl) ?_
  intro xp xe xs xm xbl xme xco F hnm
  refine x_lv [(0, .ref (ax 100)), (1, .int (nI 1))] [0, 1] rfl ?_
  refine x_iload_n F 1 dX4_countOf_0 rfl ?_
  refine x_top (nI 1) (rfl) ?_
  refine x_tableIn F 40 dX4_countOf_1 (by decide +kernel) (by decide +kernel) (off := 39) (by decide +kernel) (by decide) ?_
  refine x_aload_n F 0 dX4_countOf_40 rfl ?_
  refine x_get F inUX4 0 1 rfl rfl (by decide) wfX4_19 rfl dX4_countOf_41 ?_
  refine x_get F inUX0 8 1 rfl rfl (by decide) wfX4_40 rfl dX4_countOf_44 ?_
  exact x_iret F () (rfl) (rfl) (by omega) (by omega) dX4_countOf_47

set_option maxHeartbeats 4000000 in
set_option maxRecDepth 100000 in
theorem c_X4_countOf_2 (l : Launch) (D : va_G) (cA : Nat → ClassId) (ax : Nat → Nat) (ot : Nat) (MX : Nat → Nat → Int32) (sv : Nat → Option Nat) (al : Nat → Nat) (ML : Nat → Nat → Int32) (ad : Nat → Nat) (M : Nat → Nat → Int32)  : Cr l D cA yX4_countOf cX4_countOf 2 (some .int) 1 ([.ref (ax 100), .int (nI 2)] : List Value) ((wX cA ax (al 100) (ad 100) ot MX sv) ++ (wL cA al ML) ++ (wF cA ad M)) (fun r : Option Value => r = some (.int (ML 5 0))) := by
  refine x_met (by decide +kernel) rfl (Nat.le_of_ble_eq_true rfl) ?_
  intro xp xe xs xm xbl xme xco F hnm
  refine x_lv [(0, .ref (ax 100)), (1, .int (nI 2))] [0, 1] rfl ?_
  refine x_iload_n F 1 dX4_countOf_0 rfl ?_
  refine x_top (nI 2) (rfl) ?_
  refine x_tableIn F 48 dX4_countOf_1 (by decide +kernel) (by decide +kernel) (off := 47) (by decide +kernel) (by decide) ?_
  refine x_aload_n F 0 dX4_countOf_48 rfl ?_
  refine x_get F inUX4 0 0 rfl rfl (by decide) wfX4_10 rfl dX4_countOf_49 ?_
  refine x_get F inUX1 2 5 rfl rfl (by decide) wfX4_72 rfl dX4_countOf_52 ?_
  exact x_iret F () (rfl) (rfl) (by omega) (by omega) dX4_countOf_55

set_option maxHeartbeats 4000000 in
set_option maxRecDepth 100000 in
theorem c_X4_countOf_3 (l : Launch) (D : va_G) (cA : Nat → ClassId) (ax : Nat → Nat) (ot : Nat) (MX : Nat → Nat → Int32) (sv : Nat → Option Nat) (al : Nat → Nat) (ML : Nat → Nat → Int32) (ad : Nat → Nat) (M : Nat → Nat → Int32)  : Cr l D cA yX4_countOf cX4_countOf 2 (some .int) 1 ([.ref (ax 100), .int (nI 3)] : List Value) ((wX cA ax (al 100) (ad 100) ot MX sv) ++ (wL cA al ML) ++ (wF cA ad M)) (fun r : Option Value => r = some (.int (MX 4 0))) := by
  refine x_met (by decide +kernel) rfl (Nat.le_of_ble_eq_true rfl) ?_
  intro xp xe xs xm xbl xme xco F hnm
  refine x_lv [(0, .ref (ax 100)), (1, .int (nI 3))] [0, 1] rfl ?_
  refine x_iload_n F 1 dX4_countOf_0 rfl ?_
  refine x_top (nI 3) (rfl) ?_
  refine x_tableIn F 56 dX4_countOf_1 (by decide +kernel) (by decide +kernel) (off := 55) (by decide +kernel) (by decide) ?_
  refine x_aload_n F 0 dX4_countOf_56 rfl ?_
  refine x_get F inUX4 0 4 rfl rfl (by decide) wfX4_32 rfl dX4_countOf_57 ?_
  exact x_iret F () (rfl) (rfl) (by omega) (by omega) dX4_countOf_60

set_option maxHeartbeats 4000000 in
set_option maxRecDepth 100000 in
theorem c_X4_countOf_b (l : Launch) (D : va_G) (cA : Nat → ClassId) (ax : Nat → Nat) (ot : Nat) (MX : Nat → Nat → Int32) (sv : Nat → Option Nat) (al : Nat → Nat) (ML : Nat → Nat → Int32) (ad : Nat → Nat) (M : Nat → Nat → Int32) (p1 : Int32) (hb : p1.toInt < 0 ∨ 3 < p1.toInt) : Cr l D cA yX4_countOf cX4_countOf 2 (some .int) 1 ([.ref (ax 100), .int p1] : List Value) ((wX cA ax (al 100) (ad 100) ot MX sv) ++ (wL cA al ML) ++ (wF cA ad M)) (fun r : Option Value => r = some (.int (-2))) := by
  refine x_met (by decide +kernel) rfl (Nat.le_of_ble_eq_true rfl) ?_
  intro xp xe xs xm xbl xme xco F hnm
  refine x_lv [(0, .ref (ax 100)), (1, .int p1)] [0, 1] rfl ?_
  refine x_iload_n F 1 dX4_countOf_0 rfl ?_
  refine x_tableOut F 61 dX4_countOf_1 hb (by decide) ?_
  refine x_bipush F (-2) dX4_countOf_61 (by decide +kernel) ?_
  exact x_iret F () (rfl) (rfl) (by omega) (by omega) dX4_countOf_63

set_option maxHeartbeats 4000000 in
set_option maxRecDepth 100000 in
theorem c_X4_traitOf (l : Launch) (D : va_G) (cA : Nat → ClassId) (ax : Nat → Nat) (lo ot : Nat) (MX : Nat → Nat → Int32) (sv : Nat → Option Nat) (ad : Nat → Nat) (M : Nat → Nat → Int32) (g j : Nat) (hg : g < 2 ^ 31) (hj : j < 16) : Cr l D cA yX4_traitOf cX4_traitOf 3 (some .int) 1 ([.ref (ax 100), .int (nI g), .int (nI j)] : List Value) ((wX cA ax lo (ad 100) ot MX sv) ++ (wF cA ad M)) (fun r : Option Value => r = some (.int (trV M g j))) := by
  refine x_met (by decide +kernel) rfl (Nat.le_of_ble_eq_true rfl) ?_
  intro xp xe xs xm xbl xme xco F hnm
  refine x_lv [(0, .ref (ax 100)), (1, .int (nI g)), (2, .int (nI j))] [0, 1, 2] rfl ?_
  refine x_iload_n F 1 dX4_traitOf_0 rfl ?_
  rcases (show g = 2 ∨ g = 3 ∨ g = 4 ∨ g = 5 ∨ (g < 2 ∨ 5 < g) from by omega) with rfl | rfl | rfl | rfl | hgo
  · refine x_top (nI 2) (rfl) ?_
    refine x_tableIn F 32 dX4_traitOf_1 (by decide +kernel) (by decide +kernel) (off := 31) (by decide +kernel) (by decide) ?_
    refine x_aload_n F 0 dX4_traitOf_32 rfl ?_
    refine x_get F inUX4 0 1 rfl rfl (by decide) wfX4_19 rfl dX4_traitOf_33 ?_
    refine x_get F inUX0 2 3 rfl rfl (by decide) wfX4_178 rfl dX4_traitOf_36 ?_
    refine x_iload_n F 2 dX4_traitOf_39 rfl ?_
    refine x_iald F 4 (k := j) rfl (by omega) (by decide) dX4_traitOf_40 ?_
    exact x_iret F () (rfl) (rfl) (by omega) (by omega) dX4_traitOf_41
  · refine x_top (nI 3) (rfl) ?_
    refine x_tableIn F 42 dX4_traitOf_1 (by decide +kernel) (by decide +kernel) (off := 41) (by decide +kernel) (by decide) ?_
    refine x_aload_n F 0 dX4_traitOf_42 rfl ?_
    refine x_get F inUX4 0 1 rfl rfl (by decide) wfX4_19 rfl dX4_traitOf_43 ?_
    refine x_get F inUX0 2 4 rfl rfl (by decide) wfX4_181 rfl dX4_traitOf_46 ?_
    refine x_iload_n F 2 dX4_traitOf_49 rfl ?_
    refine x_iald F 5 (k := j) rfl (by omega) (by decide) dX4_traitOf_50 ?_
    exact x_iret F () (rfl) (rfl) (by omega) (by omega) dX4_traitOf_51
  · refine x_top (nI 4) (rfl) ?_
    refine x_tableIn F 52 dX4_traitOf_1 (by decide +kernel) (by decide +kernel) (off := 51) (by decide +kernel) (by decide) ?_
    refine x_aload_n F 0 dX4_traitOf_52 rfl ?_
    refine x_get F inUX4 0 1 rfl rfl (by decide) wfX4_19 rfl dX4_traitOf_53 ?_
    refine x_get F inUX0 2 5 rfl rfl (by decide) wfX4_184 rfl dX4_traitOf_56 ?_
    refine x_iload_n F 2 dX4_traitOf_59 rfl ?_
    refine x_iald F 6 (k := j) rfl (by omega) (by decide) dX4_traitOf_60 ?_
    exact x_iret F () (rfl) (rfl) (by omega) (by omega) dX4_traitOf_61
  · refine x_top (nI 5) (rfl) ?_
    refine x_tableIn F 62 dX4_traitOf_1 (by decide +kernel) (by decide +kernel) (off := 61) (by decide +kernel) (by decide) ?_
    refine x_aload_n F 0 dX4_traitOf_62 rfl ?_
    refine x_get F inUX4 0 1 rfl rfl (by decide) wfX4_19 rfl dX4_traitOf_63 ?_
    refine x_get F inUX0 2 6 rfl rfl (by decide) wfX4_61 rfl dX4_traitOf_66 ?_
    refine x_iload_n F 2 dX4_traitOf_69 rfl ?_
    refine x_iald F 7 (k := j) rfl (by omega) (by decide) dX4_traitOf_70 ?_
    refine x_bipush F (-2) dX4_traitOf_71 (by decide +kernel) ?_
    refine x_icmp_ne F 81 dX4_traitOf_73 (by decide) (fun h73 => ?_) (fun h73 => ?_)
    · refine x_aload_n F 0 dX4_traitOf_81 rfl ?_
      refine x_get F inUX4 0 1 rfl rfl (by decide) wfX4_19 rfl dX4_traitOf_82 ?_
      refine x_get F inUX0 2 6 rfl rfl (by decide) wfX4_61 rfl dX4_traitOf_85 ?_
      refine x_iload_n F 2 dX4_traitOf_88 rfl ?_
      refine x_iald F 7 (k := j) rfl (by omega) (by decide) dX4_traitOf_89 ?_
      refine x_iconst F (nI 1) dX4_traitOf_90 (by decide +kernel) ?_
      refine x_iadd F ((M 6 j) + (nI 1)) dX4_traitOf_91 rfl ?_
      exact x_iret F () (by unfold trV; rw [if_neg (by decide), if_neg (by decide), if_neg (by decide), if_pos rfl, if_neg h73]) (rfl) (by omega) (by omega) dX4_traitOf_92
    · refine x_bipush F (-3) dX4_traitOf_76 (by decide +kernel) ?_
      refine x_goto F 92 dX4_traitOf_78 (by decide) ?_
      exact x_iret F () (by unfold trV; rw [if_neg (by decide), if_neg (by decide), if_neg (by decide), if_pos rfl, if_pos h73]) (rfl) (by omega) (by omega) dX4_traitOf_92
  · refine x_tableOut F 93 dX4_traitOf_1 (by rw [nI_toInt hg]; omega) (by decide) ?_
    refine x_bipush F (-2) dX4_traitOf_93 (by decide +kernel) ?_
    exact x_iret F () (by unfold trV; rw [if_neg (by omega), if_neg (by omega), if_neg (by omega), if_neg (by omega)]) (rfl) (by omega) (by omega) dX4_traitOf_95

set_option maxHeartbeats 4000000 in
set_option maxRecDepth 100000 in
theorem c_X4_fact_0 (l : Launch) (D : va_G) (cA : Nat → ClassId) (ax : Nat → Nat) (ot : Nat) (MX : Nat → Nat → Int32) (sv : Nat → Option Nat) (al : Nat → Nat) (ML : Nat → Nat → Int32) (ad : Nat → Nat) (M : Nat → Nat → Int32)  : Cr l D cA yX4_fact cX4_fact 4 (some .int) 2 ([.ref (ax 100), .int (nI 0)] : List Value) ((wX cA ax (al 100) (ad 100) ot MX sv) ++ (wL cA al ML) ++ (wF cA ad M)) (fun r : Option Value => r = some (.int (nI (thc M 16)))) := by
  refine x_met (by decide +kernel) rfl (Nat.le_of_ble_eq_true rfl) ?_
  intro xp xe xs xm xbl xme xco F hnm
  refine x_lv [(0, .ref (ax 100)), (1, .int (nI 0))] [0, 1] rfl ?_
  refine x_iload_n F 1 dX4_fact_0 rfl ?_
  refine x_bipush F (nI 100) dX4_fact_1 (by decide +kernel) ?_
  refine x_icmp_ge F 12 dX4_fact_3 (by decide) (fun h3 => ?_) (fun h3 => ?_)
  · have h3n : 100 ≤ 0 := (nI_leI (by decide) (by decide)).mp h3
    exact absurd h3n (by decide)
  · have h3n : ¬ 100 ≤ 0 := fun z => h3 ((nI_leI (by decide) (by decide)).mpr z)
    refine x_aload_n F 0 dX4_fact_6 rfl ?_
    refine x_iload_n F 1 dX4_fact_7 rfl ?_
    refine x_callVr F [] [0, 1, 2, 3, 4, 5, 6, 7, 8, 9, 10, 11, 12, 13, 14, 15, 16, 17] (c_X4_countOf_0 l D cA ax ot MX sv al ML ad M) mwX4_countOf wmX4_158 rfl (q0 := 0) rfl rfl rfl (Nat.le_of_ble_eq_true rfl) ⟨by decide, by decide⟩ ⟨by show _ ≤ 0; omega, by show _ ≤ 0; omega⟩ rfl (by decide) dX4_fact_8 (fun r1 hp2 => ?_)
    subst hp2
    exact x_iret F () (rfl) (rfl) (by omega) (by omega) dX4_fact_11

set_option maxHeartbeats 4000000 in
set_option maxRecDepth 100000 in
theorem c_X4_fact_1 (l : Launch) (D : va_G) (cA : Nat → ClassId) (ax : Nat → Nat) (ot : Nat) (MX : Nat → Nat → Int32) (sv : Nat → Option Nat) (al : Nat → Nat) (ML : Nat → Nat → Int32) (ad : Nat → Nat) (M : Nat → Nat → Int32)  : Cr l D cA yX4_fact cX4_fact 4 (some .int) 2 ([.ref (ax 100), .int (nI 1)] : List Value) ((wX cA ax (al 100) (ad 100) ot MX sv) ++ (wL cA al ML) ++ (wF cA ad M)) (fun r : Option Value => r = some (.int (M 1 0))) := by
  refine x_met (by decide +kernel) rfl (Nat.le_of_ble_eq_true rfl) ?_
  intro xp xe xs xm xbl xme xco F hnm
  refine x_lv [(0, .ref (ax 100)), (1, .int (nI 1))] [0, 1] rfl ?_
  refine x_iload_n F 1 dX4_fact_0 rfl ?_
  refine x_bipush F (nI 100) dX4_fact_1 (by decide +kernel) ?_
  refine x_icmp_ge F 12 dX4_fact_3 (by decide) (fun h3 => ?_) (fun h3 => ?_)
  · have h3n : 100 ≤ 1 := (nI_leI (by decide) (by decide)).mp h3
    exact absurd h3n (by decide)
  · have h3n : ¬ 100 ≤ 1 := fun z => h3 ((nI_leI (by decide) (by decide)).mpr z)
    refine x_aload_n F 0 dX4_fact_6 rfl ?_
    refine x_iload_n F 1 dX4_fact_7 rfl ?_
    refine x_callVr F [] [0, 1, 2, 3, 4, 5, 6, 7, 8, 9, 10, 11, 12, 13, 14, 15, 16, 17] (c_X4_countOf_1 l D cA ax ot MX sv al ML ad M) mwX4_countOf wmX4_158 rfl (q0 := 0) rfl rfl rfl (Nat.le_of_ble_eq_true rfl) ⟨by decide, by decide⟩ ⟨by show _ ≤ 0; omega, by show _ ≤ 0; omega⟩ rfl (by decide) dX4_fact_8 (fun r1 hp2 => ?_)
    subst hp2
    exact x_iret F () (rfl) (rfl) (by omega) (by omega) dX4_fact_11

set_option maxHeartbeats 4000000 in
set_option maxRecDepth 100000 in
theorem c_X4_fact_2 (l : Launch) (D : va_G) (cA : Nat → ClassId) (ax : Nat → Nat) (ot : Nat) (MX : Nat → Nat → Int32) (sv : Nat → Option Nat) (al : Nat → Nat) (ML : Nat → Nat → Int32) (ad : Nat → Nat) (M : Nat → Nat → Int32)  : Cr l D cA yX4_fact cX4_fact 4 (some .int) 2 ([.ref (ax 100), .int (nI 2)] : List Value) ((wX cA ax (al 100) (ad 100) ot MX sv) ++ (wL cA al ML) ++ (wF cA ad M)) (fun r : Option Value => r = some (.int (ML 5 0))) := by
  refine x_met (by decide +kernel) rfl (Nat.le_of_ble_eq_true rfl) ?_
  intro xp xe xs xm xbl xme xco F hnm
  refine x_lv [(0, .ref (ax 100)), (1, .int (nI 2))] [0, 1] rfl ?_
  refine x_iload_n F 1 dX4_fact_0 rfl ?_
  refine x_bipush F (nI 100) dX4_fact_1 (by decide +kernel) ?_
  refine x_icmp_ge F 12 dX4_fact_3 (by decide) (fun h3 => ?_) (fun h3 => ?_)
  · have h3n : 100 ≤ 2 := (nI_leI (by decide) (by decide)).mp h3
    exact absurd h3n (by decide)
  · have h3n : ¬ 100 ≤ 2 := fun z => h3 ((nI_leI (by decide) (by decide)).mpr z)
    refine x_aload_n F 0 dX4_fact_6 rfl ?_
    refine x_iload_n F 1 dX4_fact_7 rfl ?_
    refine x_callVr F [] [0, 1, 2, 3, 4, 5, 6, 7, 8, 9, 10, 11, 12, 13, 14, 15, 16, 17] (c_X4_countOf_2 l D cA ax ot MX sv al ML ad M) mwX4_countOf wmX4_158 rfl (q0 := 0) rfl rfl rfl (Nat.le_of_ble_eq_true rfl) ⟨by decide, by decide⟩ ⟨by show _ ≤ 0; omega, by show _ ≤ 0; omega⟩ rfl (by decide) dX4_fact_8 (fun r1 hp2 => ?_)
    subst hp2
    exact x_iret F () (rfl) (rfl) (by omega) (by omega) dX4_fact_11

set_option maxHeartbeats 4000000 in
set_option maxRecDepth 100000 in
theorem c_X4_fact_3 (l : Launch) (D : va_G) (cA : Nat → ClassId) (ax : Nat → Nat) (ot : Nat) (MX : Nat → Nat → Int32) (sv : Nat → Option Nat) (al : Nat → Nat) (ML : Nat → Nat → Int32) (ad : Nat → Nat) (M : Nat → Nat → Int32)  : Cr l D cA yX4_fact cX4_fact 4 (some .int) 2 ([.ref (ax 100), .int (nI 3)] : List Value) ((wX cA ax (al 100) (ad 100) ot MX sv) ++ (wL cA al ML) ++ (wF cA ad M)) (fun r : Option Value => r = some (.int (MX 4 0))) := by
  refine x_met (by decide +kernel) rfl (Nat.le_of_ble_eq_true rfl) ?_
  intro xp xe xs xm xbl xme xco F hnm
  refine x_lv [(0, .ref (ax 100)), (1, .int (nI 3))] [0, 1] rfl ?_
  refine x_iload_n F 1 dX4_fact_0 rfl ?_
  refine x_bipush F (nI 100) dX4_fact_1 (by decide +kernel) ?_
  refine x_icmp_ge F 12 dX4_fact_3 (by decide) (fun h3 => ?_) (fun h3 => ?_)
  · have h3n : 100 ≤ 3 := (nI_leI (by decide) (by decide)).mp h3
    exact absurd h3n (by decide)
  · have h3n : ¬ 100 ≤ 3 := fun z => h3 ((nI_leI (by decide) (by decide)).mpr z)
    refine x_aload_n F 0 dX4_fact_6 rfl ?_
    refine x_iload_n F 1 dX4_fact_7 rfl ?_
    refine x_callVr F [] [0, 1, 2, 3, 4, 5, 6, 7, 8, 9, 10, 11, 12, 13, 14, 15, 16, 17] (c_X4_countOf_3 l D cA ax ot MX sv al ML ad M) mwX4_countOf wmX4_158 rfl (q0 := 0) rfl rfl rfl (Nat.le_of_ble_eq_true rfl) ⟨by decide, by decide⟩ ⟨by show _ ≤ 0; omega, by show _ ≤ 0; omega⟩ rfl (by decide) dX4_fact_8 (fun r1 hp2 => ?_)
    subst hp2
    exact x_iret F () (rfl) (rfl) (by omega) (by omega) dX4_fact_11

set_option maxHeartbeats 4000000 in
set_option maxRecDepth 100000 in
theorem c_X4_fact_b (l : Launch) (D : va_G) (cA : Nat → ClassId) (ax : Nat → Nat) (ot : Nat) (MX : Nat → Nat → Int32) (sv : Nat → Option Nat) (al : Nat → Nat) (ML : Nat → Nat → Int32) (ad : Nat → Nat) (M : Nat → Nat → Int32) (p1 : Int32) (h100 : ¬ nI 100 ≤ p1) (hb : ¬ (nI 0 ≤ p1 ∧ p1 ≤ nI 3)) : Cr l D cA yX4_fact cX4_fact 4 (some .int) 2 ([.ref (ax 100), .int p1] : List Value) ((wX cA ax (al 100) (ad 100) ot MX sv) ++ (wL cA al ML) ++ (wF cA ad M)) (fun r : Option Value => r = some (.int (-2))) := by
  refine x_met (by decide +kernel) rfl (Nat.le_of_ble_eq_true rfl) ?_
  intro xp xe xs xm xbl xme xco F hnm
  refine x_lv [(0, .ref (ax 100)), (1, .int p1)] [0, 1] rfl ?_
  refine x_iload_n F 1 dX4_fact_0 rfl ?_
  refine x_bipush F (nI 100) dX4_fact_1 (by decide +kernel) ?_
  refine x_icmp_ge F 12 dX4_fact_3 (by decide) (fun h3 => ?_) (fun h3 => ?_)
  · exact absurd h3 h100
  · refine x_aload_n F 0 dX4_fact_6 rfl ?_
    refine x_iload_n F 1 dX4_fact_7 rfl ?_
    refine x_callVr F [] [0, 1, 2, 3, 4, 5, 6, 7, 8, 9, 10, 11, 12, 13, 14, 15, 16, 17] (c_X4_countOf_b l D cA ax ot MX sv al ML ad M p1 (nin_int (a := 0) (n := 3) (by decide) (by decide) hb)) mwX4_countOf wmX4_158 rfl (q0 := 0) rfl rfl rfl (Nat.le_of_ble_eq_true rfl) ⟨by decide, by decide⟩ ⟨by show _ ≤ 0; omega, by show _ ≤ 0; omega⟩ rfl (by decide) dX4_fact_8 (fun r1 hp2 => ?_)
    subst hp2
    exact x_iret F () (rfl) (rfl) (by omega) (by omega) dX4_fact_11

theorem in_came {d cw : Nat} (hd : d < 2 ^ 31) (hc : cw ≤ 16) : (nI 0 ≤ nI d ∧ nI d ≤ nI cw - nI 1) ↔ d < cw := by
  rcases Nat.eq_zero_or_pos cw with rfl | h
  · refine ⟨fun z => ?_, fun z => absurd z (Nat.not_lt_zero _)⟩
    have h1 := Int32.le_iff_toInt_le.mp (Int32.le_trans z.1 z.2)
    exact absurd h1 (by decide +kernel)
  · rw [pk_sub h, in_nat (by omega) hd (by decide)]; omega
set_option maxHeartbeats 4000000 in
set_option maxRecDepth 100000 in
theorem c_X4_fact_w (l : Launch) (D : va_G) (cA : Nat → ClassId) (ax : Nat → Nat) (lo ot : Nat) (MX : Nat → Nat → Int32) (sv : Nat → Option Nat) (ad : Nat → Nat) (M : Nat → Nat → Int32) (w cw : Nat) (hw1 : 100 ≤ w) (hw2 : w < 2 ^ 31) (hcw : M 1 0 = nI cw) (hc16 : cw ≤ 16) : Cr l D cA yX4_fact cX4_fact 4 (some .int) 2 ([.ref (ax 100), .int (nI w)] : List Value) ((wX cA ax lo (ad 100) ot MX sv) ++ (wF cA ad M)) (fun r : Option Value => r = some (.int (fcV M cw (w / 100) (w % 100)))) := by
  refine x_met (by decide +kernel) rfl (Nat.le_of_ble_eq_true rfl) ?_
  intro xp xe xs xm xbl xme xco F hnm
  refine x_lv [(0, .ref (ax 100)), (1, .int (nI w))] [0, 1] rfl ?_
  refine x_iload_n F 1 dX4_fact_0 rfl ?_
  refine x_bipush F (nI 100) dX4_fact_1 (by decide +kernel) ?_
  refine x_icmp_ge F 12 dX4_fact_3 (by decide) (fun h3 => ?_) (fun h3 => ?_)
  · have h3n : 100 ≤ w := (nI_leI (by decide) (by omega)).mp h3
    refine x_iload_n F 1 dX4_fact_12 rfl ?_
    refine x_bipush F (nI 100) dX4_fact_13 (by decide +kernel) ?_
    refine x_idiv F ((nI w) / (nI 100)) dX4_fact_15 (by decide) rfl ?_
    refine x_top (nI (w / 100)) (pk_div hw2 (by decide) (by decide)) ?_
    refine x_istore_n F [(2, .int (nI (w / 100))), (0, .ref (ax 100)), (1, .int (nI w))] dX4_fact_16 (by decide) rfl ?_
    refine x_iload_n F 2 dX4_fact_17 rfl ?_
    refine x_bipush F (nI 100) dX4_fact_18 (by decide +kernel) ?_
    refine x_irem F ((nI w) - (nI w) / (nI 100) * (nI 100)) dX4_fact_20 (by decide) rfl ?_
    refine x_top (nI (w % 100)) (pk_rem hw2 (by decide) (by decide)) ?_
    refine x_istore_n F [(3, .int (nI (w % 100))), (2, .int (nI (w / 100))), (0, .ref (ax 100)), (1, .int (nI w))] dX4_fact_21 (by decide) rfl ?_
    refine x_iload_n F 1 dX4_fact_22 rfl ?_
    refine x_iconst F (nI 1) dX4_fact_23 (by decide +kernel) ?_
    refine x_icmp_ne F 66 dX4_fact_24 (by decide) (fun h24 => ?_) (fun h24 => ?_)
    · have h24n : ¬ (w / 100) = 1 := fun z => h24 ((nI_eq (by omega) (by decide)).mpr z)
      refine x_iload_n F 1 dX4_fact_66 rfl ?_
      refine x_bipush F (nI 6) dX4_fact_67 (by decide +kernel) ?_
      refine x_icmp_ne F 94 dX4_fact_69 (by decide) (fun h69 => ?_) (fun h69 => ?_)
      · have h69n : ¬ (w / 100) = 6 := fun z => h69 ((nI_eq (by omega) (by decide)).mpr z)
        refine x_aload_n F 2 dX4_fact_94 rfl ?_
        refine x_get F inUX4 0 1 rfl rfl (by decide) wfX4_19 rfl dX4_fact_95 ?_
        refine x_iload_n F 0 dX4_fact_98 rfl ?_
        refine x_callVr F [] [2, 3, 4, 5, 6, 7, 8, 9, 10, 11] (c_X0_has l D cA ad M (nI (w % 100))) mwX0_has wmX4_47 rfl (q0 := 0) rfl rfl rfl (Nat.le_of_ble_eq_true rfl) ⟨by decide, by decide⟩ ⟨by show _ ≤ 0; omega, by show _ ≤ 0; omega⟩ rfl (by decide) dX4_fact_99 (fun r1 hp2 => ?_)
        subst hp2
        refine x_if_eq F 114 dX4_fact_102 (by decide) (fun h102 => ?_) (fun h102 => ?_)
        · have h102j : ¬ (w % 100 < 16 ∧ ¬ M 2 (w % 100) = 0) := fun z => bz_0.mp h102 ⟨(in_nat (by decide) (by omega) (by decide)).mpr ⟨by omega, by omega⟩, by rw [nI_clamp (by omega)]; exact z.2⟩
          refine x_bipush F (-2) dX4_fact_114 (by decide +kernel) ?_
          exact x_iret F () (congrArg (fun z => some (Value.int z)) (show (-2) = fcV M cw (w / 100) (w % 100) from Eq.symm (by unfold fcV; rw [if_neg h24n, if_neg h69n, if_neg h102j]))) (rfl) (by omega) (by omega) dX4_fact_116
        · have h102j : w % 100 < 16 ∧ ¬ M 2 (w % 100) = 0 := by
            have z := bz_n0.mp h102
            have z1 := (in_nat (by decide) (by omega) (by decide)).mp z.1
            have z2 := z.2
            rw [nI_clamp (by omega)] at z2
            exact ⟨by omega, z2⟩
          refine x_aload_n F 2 dX4_fact_105 rfl ?_
          refine x_iload_n F 1 dX4_fact_106 rfl ?_
          refine x_iload_n F 0 dX4_fact_107 rfl ?_
          refine x_callVr F [] [0, 1, 2, 3, 4, 5, 6, 7, 8, 9, 10, 11] (c_X4_traitOf l D cA ax lo ot MX sv ad M (w / 100) (w % 100) (by omega) (by omega)) mwX4_traitOf wmX4_164 rfl (q0 := 0) rfl rfl rfl (Nat.le_of_ble_eq_true rfl) ⟨by decide, by decide⟩ ⟨by show _ ≤ 0; omega, by show _ ≤ 0; omega⟩ rfl (by decide) dX4_fact_108 (fun r3 hp4 => ?_)
          subst hp4
          refine x_goto F 116 dX4_fact_111 (by decide) ?_
          exact x_iret F () (congrArg (fun z => some (Value.int z)) (show trV M (w / 100) (w % 100) = fcV M cw (w / 100) (w % 100) from Eq.symm (fcV_tr h24n h69n h102j))) (rfl) (by omega) (by omega) dX4_fact_116
      · have h69n : (w / 100) = 6 := (nI_eq (by omega) (by decide)).mp h69
        refine x_iload_n F 0 dX4_fact_72 rfl ?_
        refine x_callSr F [] [] (c_X4_isRoom l D cA (nI (w % 100))) mwX4_isRoom wmX4_51 rfl rfl (Nat.le_of_ble_eq_true rfl) ⟨by decide, by decide⟩ ⟨by show _ ≤ 0; omega, by show _ ≤ 0; omega⟩ rfl (by decide) dX4_fact_73 (fun r5 hp6 => ?_)
        subst hp6
        refine x_if_eq F 91 dX4_fact_76 (by decide) (fun h76 => ?_) (fun h76 => ?_)
        · have h76n : ¬ w % 100 < 6 := fun z => bz_0.mp h76 ((in_nat (by decide) (by omega) (by decide)).mpr ⟨by omega, by omega⟩)
          refine x_bipush F (-2) dX4_fact_91 (by decide +kernel) ?_
          exact x_iret F () (congrArg (fun z => some (Value.int z)) (show (-2) = fcV M cw (w / 100) (w % 100) from Eq.symm (by unfold fcV; rw [if_neg h24n, if_pos h69n, if_neg h76n]))) (rfl) (by omega) (by omega) dX4_fact_93
        · have h76n : w % 100 < 6 := by have z := (in_nat (by decide) (by omega) (by decide)).mp (bz_n0.mp h76); omega
          refine x_aload_n F 2 dX4_fact_79 rfl ?_
          refine x_get F inUX4 0 1 rfl rfl (by decide) wfX4_19 rfl dX4_fact_80 ?_
          refine x_get F inUX0 2 8 rfl rfl (by decide) wfX4_161 rfl dX4_fact_83 ?_
          refine x_iload_n F 0 dX4_fact_86 rfl ?_
          refine x_iald F 9 (k := w % 100) rfl (by omega) (by decide) dX4_fact_87 ?_
          refine x_goto F 93 dX4_fact_88 (by decide) ?_
          exact x_iret F () (congrArg (fun z => some (Value.int z)) (show M 8 (w % 100) = fcV M cw (w / 100) (w % 100) from Eq.symm (by unfold fcV; rw [if_neg h24n, if_pos h69n, if_pos h76n]))) (rfl) (by omega) (by omega) dX4_fact_93
    · have h24n : (w / 100) = 1 := (nI_eq (by omega) (by decide)).mp h24
      refine x_iload_n F 0 dX4_fact_27 rfl ?_
      refine x_iconst F (nI 0) dX4_fact_28 (by decide +kernel) ?_
      refine x_aload_n F 2 dX4_fact_29 rfl ?_
      refine x_get F inUX4 0 1 rfl rfl (by decide) wfX4_19 rfl dX4_fact_30 ?_
      refine x_get F inUX0 2 1 rfl rfl (by decide) wfX4_40 rfl dX4_fact_33 ?_
      refine x_top (nI cw) (hcw) ?_
      refine x_iconst F (nI 1) dX4_fact_36 (by decide +kernel) ?_
      refine x_isub F ((nI cw) - (nI 1)) dX4_fact_37 rfl ?_
      refine x_callSr F [] [] (c_X4_isWithin l D cA (nI (w % 100)) (nI 0) ((nI cw) - (nI 1))) mwX4_isWithin wmX4_54 rfl rfl (Nat.le_of_ble_eq_true rfl) ⟨by decide, by decide⟩ ⟨by show _ ≤ 0; omega, by show _ ≤ 0; omega⟩ rfl (by decide) dX4_fact_38 (fun r7 hp8 => ?_)
      subst hp8
      refine x_if_eq F 63 dX4_fact_41 (by decide) (fun h41 => ?_) (fun h41 => ?_)
      · have h41n : ¬ w % 100 < cw := fun z => bz_0.mp h41 ((in_came (by omega) hc16).mpr z)
        refine x_bipush F (-2) dX4_fact_63 (by decide +kernel) ?_
        exact x_iret F () (congrArg (fun z => some (Value.int z)) (show (-2) = fcV M cw (w / 100) (w % 100) from Eq.symm (by unfold fcV; rw [if_pos h24n, if_neg h41n]))) (rfl) (by omega) (by omega) dX4_fact_65
      · have h41n : w % 100 < cw := (in_came (by omega) hc16).mp (bz_n0.mp h41)
        refine x_aload_n F 2 dX4_fact_44 rfl ?_
        refine x_get F inUX4 0 1 rfl rfl (by decide) wfX4_19 rfl dX4_fact_45 ?_
        refine x_iload_n F 0 dX4_fact_48 rfl ?_
        refine x_callVr F [] [2, 3, 4, 5, 6, 7, 8, 9, 10, 11] (c_X0_has l D cA ad M (nI (w % 100))) mwX0_has wmX4_47 rfl (q0 := 0) rfl rfl rfl (Nat.le_of_ble_eq_true rfl) ⟨by decide, by decide⟩ ⟨by show _ ≤ 0; omega, by show _ ≤ 0; omega⟩ rfl (by decide) dX4_fact_49 (fun r9 hp10 => ?_)
        subst hp10
        refine x_if_eq F 59 dX4_fact_52 (by decide) (fun h52 => ?_) (fun h52 => ?_)
        · have h52j : ¬ (w % 100 < 16 ∧ ¬ M 2 (w % 100) = 0) := fun z => bz_0.mp h52 ⟨(in_nat (by decide) (by omega) (by decide)).mpr ⟨by omega, by omega⟩, by rw [nI_clamp (by omega)]; exact z.2⟩
          refine x_iconst F (nI 0) dX4_fact_59 (by decide +kernel) ?_
          refine x_goto F 65 dX4_fact_60 (by decide) ?_
          exact x_iret F () (congrArg (fun z => some (Value.int z)) (show nI 0 = fcV M cw (w / 100) (w % 100) from Eq.symm (by unfold fcV; rw [if_pos h24n, if_pos h41n, if_neg h52j]))) (rfl) (by omega) (by omega) dX4_fact_65
        · have h52j : w % 100 < 16 ∧ ¬ M 2 (w % 100) = 0 := by
            have z := bz_n0.mp h52
            have z1 := (in_nat (by decide) (by omega) (by decide)).mp z.1
            have z2 := z.2
            rw [nI_clamp (by omega)] at z2
            exact ⟨by omega, z2⟩
          refine x_iconst F (nI 1) dX4_fact_55 (by decide +kernel) ?_
          refine x_goto F 65 dX4_fact_56 (by decide) ?_
          exact x_iret F () (congrArg (fun z => some (Value.int z)) (show nI 1 = fcV M cw (w / 100) (w % 100) from Eq.symm (by unfold fcV; rw [if_pos h24n, if_pos h41n, if_pos h52j]))) (rfl) (by omega) (by omega) dX4_fact_65
  · have h3n : ¬ 100 ≤ w := fun z => h3 ((nI_leI (by decide) (by omega)).mpr z)
    exact absurd hw1 h3n

