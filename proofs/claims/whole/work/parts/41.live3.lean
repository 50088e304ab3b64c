/-! the class: the rest of its solves, facts, the constructors -/
set_option maxHeartbeats 4000000 in
set_option maxRecDepth 100000 in
theorem c_X4_scoreBy_0 (l : Launch) (D : va_G) (cA : Nat → ClassId) (ax : Nat → Nat) (la : Nat) (MX : Nat → Nat → Int32) (sv : Nat → Option Nat) (al : Nat → Nat) (ML : Nat → Nat → Int32) (ao : Nat → Nat) (MO : Nat → Nat → Int32) (as_ : Nat → Nat) (L : Nat) (MS : Nat → Nat → Int32) (JS : Nat → Nat → Int64) (mk : Nat → Option Nat) (fo : Nat) (ns s_ n k cnt : Nat) (p2 p3 : Int32) (hns : MX 4 0 = nI ns) (hn3 : ns ≤ 3) (hs : s_ < ns) (ha : sv s_ = some (as_ 100)) (hc : ML 5 0 = nI cnt) (hcn : cnt ≤ 120) (hk : MO 0 0 = nI k) (hkc : k ≤ cnt) (hwf : ∀ i, i < cnt → wfE ML i) (hnc : n ≤ cnt) (hb : p2 = 0) : Cg l D cA yX4_scoreBy cX4_scoreBy 6 (some .int) 4 0 0 ([.ref (ax 100), .int (nI s_), .int p2, .int p3, .int (nI n)] : List Value) ((wX cA ax (al 100) la (ao 100) MX sv) ++ (wL cA al ML) ++ (wF cA ao MO) ++ (wS cA as_ fo L MS JS mk)) (fun (r : Option Value) (u : Nat → Nat → Int32) => r = some (.int (if p3 = 0 then (scL (becF ML k n MO) (MS 1)).toInt32 else (scL (becF ML k n MO) (MS 1) >>> ((nI 32).toInt64 &&& 63)).toInt32)) ∧ u = scT (becF ML k n MO) (MS 1) 16) (fun u : Nat → Nat → Int32 => (wX cA ax (al 100) la (ao 100) MX sv) ++ (wL cA al ML) ++ (wF cA ao u) ++ (wS cA as_ fo L MS JS mk)) := by
  refine x_met (by decide +kernel) rfl (Nat.le_of_ble_eq_true rfl) ?_
  intro xp xe xs xm xbl xme xco F hnm
  refine x_lv [(0, .ref (ax 100)), (1, .int (nI s_)), (2, .int p2), (3, .int p3), (4, .int (nI n))] [0, 1, 2, 3, 4] rfl ?_
  refine x_aload_n F 0 dX4_scoreBy_0 rfl ?_
  refine x_iload_n F 1 dX4_scoreBy_1 rfl ?_
  refine x_callVr F [] [0, 1] (c_X4_solveOf1 l D cA ax (al 100) la (ao 100) MX sv ns s_ (as_ 100) hns hn3 hs ha) mwX4_solveOf wmX4_68 rfl (q0 := 0) rfl rfl rfl (Nat.le_of_ble_eq_true rfl) ⟨by decide, by decide⟩ ⟨by show _ ≤ 0; omega, by show _ ≤ 0; omega⟩ rfl (by decide) dX4_scoreBy_2 (fun r1 hp2 => ?_)
  subst hp2
  refine x_astore F [(5, .ref (as_ 100)), (0, .ref (ax 100)), (1, .int (nI s_)), (2, .int p2), (3, .int p3), (4, .int (nI n))] dX4_scoreBy_5 (by decide) rfl ?_
  refine x_aload F 0 dX4_scoreBy_7 rfl ?_
  refine x_ifnull_r F dX4_scoreBy_9 ?_
  refine x_iload F 5 dX4_scoreBy_12 rfl ?_
  refine x_iconst F (nI 0) dX4_scoreBy_14 (by decide +kernel) ?_
  refine x_aload_n F 1 dX4_scoreBy_15 rfl ?_
  refine x_get F inUX4 0 0 rfl rfl (by decide) wfX4_10 rfl dX4_scoreBy_16 ?_
  refine x_get F inUX1 2 5 rfl rfl (by decide) wfX4_72 rfl dX4_scoreBy_19 ?_
  refine x_top (nI cnt) (hc) ?_
  refine x_callSr F [] [] (c_X4_isWithin l D cA (nI n) (nI 0) (nI cnt)) mwX4_isWithin wmX4_54 rfl rfl (Nat.le_of_ble_eq_true rfl) ⟨by decide, by decide⟩ ⟨by show _ ≤ 0; omega, by show _ ≤ 0; omega⟩ rfl (by decide) dX4_scoreBy_22 (fun r3 hp4 => ?_)
  subst hp4
  refine x_if_ne F 31 dX4_scoreBy_25 (by decide) (fun h25 => ?_) (fun h25 => ?_)
  · refine x_aload_n F 1 dX4_scoreBy_31 rfl ?_
    refine x_get F inUX4 0 2 rfl rfl (by decide) wfX4_23 rfl dX4_scoreBy_32 ?_
    refine x_aload_n F 1 dX4_scoreBy_35 rfl ?_
    refine x_get F inUX4 0 0 rfl rfl (by decide) wfX4_10 rfl dX4_scoreBy_36 ?_
    refine x_iload F 5 dX4_scoreBy_39 rfl ?_
    refine x_callV F [] ((wX cA ax (al 100) la (ao 100) MX sv) ++ (wS cA as_ fo L MS JS mk)) [8, 9, 10, 11, 12, 13, 14, 15, 16, 17, 2, 3, 4, 5, 6, 7] [0, 1, 18, 19, 20, 21, 22, 23] (c_X0_become l D cA ao MO al ML n k cnt hc hcn hnc hk hkc hwf) mwX0_become wmX4_129 rfl (q0 := 0) rfl rfl rfl (Nat.le_of_ble_eq_true rfl) ⟨by decide, by decide⟩ ⟨by show _ ≤ 0; omega, by show _ ≤ 0; omega⟩ rfl rfl (by decide) (by decide) (by decide) dX4_scoreBy_41 (fun r5 u6 hp7 => ?_)
    obtain ⟨rfl, rfl⟩ := hp7
    refine x_sub ((wX cA ax (al 100) la (ao 100) MX sv) ++ (wL cA al ML) ++ (wF cA ao (becF ML k n MO)) ++ (wS cA as_ fo L MS JS mk)) [0, 1, 18, 19, 20, 21, 22, 23, 8, 9, 10, 11, 12, 13, 14, 15, 16, 17, 2, 3, 4, 5, 6, 7] rfl (by decide) ?_
    obtain ⟨NB, eNB⟩ : ∃ z, z = becF ML k n MO := ⟨_, rfl⟩
    rw [← eNB]
    refine x_aload_n F 1 dX4_scoreBy_44 rfl ?_
    refine x_get F inUX4 0 2 rfl rfl (by decide) wfX4_23 rfl dX4_scoreBy_45 ?_
    refine x_aload F 0 dX4_scoreBy_48 rfl ?_
    refine x_iload_n F 3 dX4_scoreBy_50 rfl ?_
    refine x_callVr F [.ref (ao 100)] [18, 19, 20, 21, 22, 23] (c_X3_rooms0 l D cA as_ L MS JS mk fo p2 hb) mwX3_rooms wmX4_114 rfl (q0 := 0) rfl rfl rfl (Nat.le_of_ble_eq_true rfl) ⟨by decide, by decide⟩ ⟨by show _ ≤ 0; omega, by show _ ≤ 0; omega⟩ rfl (by decide) dX4_scoreBy_51 (fun r8 hp9 => ?_)
    subst hp9
    refine x_callV F [] ([0, 1, 2, 3, 4, 5, 6, 7, 18, 20, 21, 22, 23].filterMap (fun i => ((wX cA ax (al 100) la (ao 100) MX sv) ++ (wL cA al ML) ++ (wF cA ao NB) ++ (wS cA as_ fo L MS JS mk))[i]?)) [8, 9, 10, 11, 12, 13, 14, 15, 16, 17, 19] [0, 1, 2, 3, 4, 5, 6, 7, 18, 20, 21, 22, 23] (c_X0_scoreOf l D cA ao NB (as_ 1) (MS 1)) mwX0_scoreOf wmX4_133 rfl (q0 := 0) rfl rfl rfl (Nat.le_of_ble_eq_true rfl) ⟨by decide, by decide⟩ ⟨by show _ ≤ 0; omega, by show _ ≤ 0; omega⟩ rfl rfl (by decide) (by decide) (by decide) dX4_scoreBy_54 (fun r10 u11 hp12 => ?_)
    obtain ⟨rfl, eu11⟩ := hp12
    refine x_sub ((wX cA ax (al 100) la (ao 100) MX sv) ++ (wL cA al ML) ++ (wF cA ao u11) ++ (wS cA as_ fo L MS JS mk)) [0, 1, 2, 3, 4, 5, 6, 7, 13, 14, 15, 16, 17, 18, 19, 20, 21, 22, 8, 23, 9, 10, 11, 12] rfl (by decide) ?_
    refine x_iload_n F 4 dX4_scoreBy_57 rfl ?_
    refine x_callSr F [] [] (c_X4_partOf l D cA (scL NB (MS 1)) p3) mwX4_partOf wmX4_125 rfl rfl (Nat.le_of_ble_eq_true rfl) ⟨by decide, by decide⟩ ⟨by show _ ≤ 0; omega, by show _ ≤ 0; omega⟩ rfl (by decide) dX4_scoreBy_58 (fun r13 hp14 => ?_)
    subst hp14
    exact x_iret F u11 (⟨rfl, eu11⟩) (rfl) (by omega) (by omega) dX4_scoreBy_61
  · exact absurd (wn_in (n := cnt) hnc (by omega)) (bz_0.mp h25)

set_option maxHeartbeats 4000000 in
set_option maxRecDepth 100000 in
theorem c_X4_scoreBy_1 (l : Launch) (D : va_G) (cA : Nat → ClassId) (ax : Nat → Nat) (la : Nat) (MX : Nat → Nat → Int32) (sv : Nat → Option Nat) (al : Nat → Nat) (ML : Nat → Nat → Int32) (ao : Nat → Nat) (MO : Nat → Nat → Int32) (as_ : Nat → Nat) (L : Nat) (MS : Nat → Nat → Int32) (JS : Nat → Nat → Int64) (mk : Nat → Option Nat) (fo : Nat) (ns s_ n k cnt : Nat) (p2 p3 : Int32) (hns : MX 4 0 = nI ns) (hn3 : ns ≤ 3) (hs : s_ < ns) (ha : sv s_ = some (as_ 100)) (hc : ML 5 0 = nI cnt) (hcn : cnt ≤ 120) (hk : MO 0 0 = nI k) (hkc : k ≤ cnt) (hwf : ∀ i, i < cnt → wfE ML i) (hnc : n ≤ cnt) (hb : ¬ p2 = 0) : Cg l D cA yX4_scoreBy cX4_scoreBy 6 (some .int) 4 0 0 ([.ref (ax 100), .int (nI s_), .int p2, .int p3, .int (nI n)] : List Value) ((wX cA ax (al 100) la (ao 100) MX sv) ++ (wL cA al ML) ++ (wF cA ao MO) ++ (wS cA as_ fo L MS JS mk)) (fun (r : Option Value) (u : Nat → Nat → Int32) => r = some (.int (if p3 = 0 then (scL (becF ML k n MO) (MS 2)).toInt32 else (scL (becF ML k n MO) (MS 2) >>> ((nI 32).toInt64 &&& 63)).toInt32)) ∧ u = scT (becF ML k n MO) (MS 2) 16) (fun u : Nat → Nat → Int32 => (wX cA ax (al 100) la (ao 100) MX sv) ++ (wL cA al ML) ++ (wF cA ao u) ++ (wS cA as_ fo L MS JS mk)) := by
  refine x_met (by decide +kernel) rfl (Nat.le_of_ble_eq_true rfl) ?_
  intro xp xe xs xm xbl xme xco F hnm
  refine x_lv [(0, .ref (ax 100)), (1, .int (nI s_)), (2, .int p2), (3, .int p3), (4, .int (nI n))] [0, 1, 2, 3, 4] rfl ?_
  refine x_aload_n F 0 dX4_scoreBy_0 rfl ?_
  refine x_iload_n F 1 dX4_scoreBy_1 rfl ?_
  refine x_callVr F [] [0, 1] (c_X4_solveOf1 l D cA ax (al 100) la (ao 100) MX sv ns s_ (as_ 100) hns hn3 hs ha) mwX4_solveOf wmX4_68 rfl (q0 := 0) rfl rfl rfl (Nat.le_of_ble_eq_true rfl) ⟨by decide, by decide⟩ ⟨by show _ ≤ 0; omega, by show _ ≤ 0; omega⟩ rfl (by decide) dX4_scoreBy_2 (fun r1 hp2 => ?_)
  subst hp2
  refine x_astore F [(5, .ref (as_ 100)), (0, .ref (ax 100)), (1, .int (nI s_)), (2, .int p2), (3, .int p3), (4, .int (nI n))] dX4_scoreBy_5 (by decide) rfl ?_
  refine x_aload F 0 dX4_scoreBy_7 rfl ?_
  refine x_ifnull_r F dX4_scoreBy_9 ?_
  refine x_iload F 5 dX4_scoreBy_12 rfl ?_
  refine x_iconst F (nI 0) dX4_scoreBy_14 (by decide +kernel) ?_
  refine x_aload_n F 1 dX4_scoreBy_15 rfl ?_
  refine x_get F inUX4 0 0 rfl rfl (by decide) wfX4_10 rfl dX4_scoreBy_16 ?_
  refine x_get F inUX1 2 5 rfl rfl (by decide) wfX4_72 rfl dX4_scoreBy_19 ?_
  refine x_top (nI cnt) (hc) ?_
  refine x_callSr F [] [] (c_X4_isWithin l D cA (nI n) (nI 0) (nI cnt)) mwX4_isWithin wmX4_54 rfl rfl (Nat.le_of_ble_eq_true rfl) ⟨by decide, by decide⟩ ⟨by show _ ≤ 0; omega, by show _ ≤ 0; omega⟩ rfl (by decide) dX4_scoreBy_22 (fun r3 hp4 => ?_)
  subst hp4
  refine x_if_ne F 31 dX4_scoreBy_25 (by decide) (fun h25 => ?_) (fun h25 => ?_)
  · refine x_aload_n F 1 dX4_scoreBy_31 rfl ?_
    refine x_get F inUX4 0 2 rfl rfl (by decide) wfX4_23 rfl dX4_scoreBy_32 ?_
    refine x_aload_n F 1 dX4_scoreBy_35 rfl ?_
    refine x_get F inUX4 0 0 rfl rfl (by decide) wfX4_10 rfl dX4_scoreBy_36 ?_
    refine x_iload F 5 dX4_scoreBy_39 rfl ?_
    refine x_callV F [] ((wX cA ax (al 100) la (ao 100) MX sv) ++ (wS cA as_ fo L MS JS mk)) [8, 9, 10, 11, 12, 13, 14, 15, 16, 17, 2, 3, 4, 5, 6, 7] [0, 1, 18, 19, 20, 21, 22, 23] (c_X0_become l D cA ao MO al ML n k cnt hc hcn hnc hk hkc hwf) mwX0_become wmX4_129 rfl (q0 := 0) rfl rfl rfl (Nat.le_of_ble_eq_true rfl) ⟨by decide, by decide⟩ ⟨by show _ ≤ 0; omega, by show _ ≤ 0; omega⟩ rfl rfl (by decide) (by decide) (by decide) dX4_scoreBy_41 (fun r5 u6 hp7 => ?_)
    obtain ⟨rfl, rfl⟩ := hp7
    refine x_sub ((wX cA ax (al 100) la (ao 100) MX sv) ++ (wL cA al ML) ++ (wF cA ao (becF ML k n MO)) ++ (wS cA as_ fo L MS JS mk)) [0, 1, 18, 19, 20, 21, 22, 23, 8, 9, 10, 11, 12, 13, 14, 15, 16, 17, 2, 3, 4, 5, 6, 7] rfl (by decide) ?_
    obtain ⟨NB, eNB⟩ : ∃ z, z = becF ML k n MO := ⟨_, rfl⟩
    rw [← eNB]
    refine x_aload_n F 1 dX4_scoreBy_44 rfl ?_
    refine x_get F inUX4 0 2 rfl rfl (by decide) wfX4_23 rfl dX4_scoreBy_45 ?_
    refine x_aload F 0 dX4_scoreBy_48 rfl ?_
    refine x_iload_n F 3 dX4_scoreBy_50 rfl ?_
    refine x_callVr F [.ref (ao 100)] [18, 19, 20, 21, 22, 23] (c_X3_rooms1 l D cA as_ L MS JS mk fo p2 hb) mwX3_rooms wmX4_114 rfl (q0 := 0) rfl rfl rfl (Nat.le_of_ble_eq_true rfl) ⟨by decide, by decide⟩ ⟨by show _ ≤ 0; omega, by show _ ≤ 0; omega⟩ rfl (by decide) dX4_scoreBy_51 (fun r8 hp9 => ?_)
    subst hp9
    refine x_callV F [] ([0, 1, 2, 3, 4, 5, 6, 7, 18, 19, 21, 22, 23].filterMap (fun i => ((wX cA ax (al 100) la (ao 100) MX sv) ++ (wL cA al ML) ++ (wF cA ao NB) ++ (wS cA as_ fo L MS JS mk))[i]?)) [8, 9, 10, 11, 12, 13, 14, 15, 16, 17, 20] [0, 1, 2, 3, 4, 5, 6, 7, 18, 19, 21, 22, 23] (c_X0_scoreOf l D cA ao NB (as_ 2) (MS 2)) mwX0_scoreOf wmX4_133 rfl (q0 := 0) rfl rfl rfl (Nat.le_of_ble_eq_true rfl) ⟨by decide, by decide⟩ ⟨by show _ ≤ 0; omega, by show _ ≤ 0; omega⟩ rfl rfl (by decide) (by decide) (by decide) dX4_scoreBy_54 (fun r10 u11 hp12 => ?_)
    obtain ⟨rfl, eu11⟩ := hp12
    refine x_sub ((wX cA ax (al 100) la (ao 100) MX sv) ++ (wL cA al ML) ++ (wF cA ao u11) ++ (wS cA as_ fo L MS JS mk)) [0, 1, 2, 3, 4, 5, 6, 7, 13, 14, 15, 16, 17, 18, 19, 20, 21, 22, 8, 9, 23, 10, 11, 12] rfl (by decide) ?_
    refine x_iload_n F 4 dX4_scoreBy_57 rfl ?_
    refine x_callSr F [] [] (c_X4_partOf l D cA (scL NB (MS 2)) p3) mwX4_partOf wmX4_125 rfl rfl (Nat.le_of_ble_eq_true rfl) ⟨by decide, by decide⟩ ⟨by show _ ≤ 0; omega, by show _ ≤ 0; omega⟩ rfl (by decide) dX4_scoreBy_58 (fun r13 hp14 => ?_)
    subst hp14
    exact x_iret F u11 (⟨rfl, eu11⟩) (rfl) (by omega) (by omega) dX4_scoreBy_61
  · exact absurd (wn_in (n := cnt) hnc (by omega)) (bz_0.mp h25)

set_option maxHeartbeats 4000000 in
set_option maxRecDepth 100000 in
theorem c_X4_told_0 (l : Launch) (D : va_G) (cA : Nat → ClassId) (ax : Nat → Nat) (lo la ot : Nat) (MX : Nat → Nat → Int32) (sv : Nat → Option Nat) (as_ : Nat → Nat) (L : Nat) (MS : Nat → Nat → Int32) (JS : Nat → Nat → Int64) (mk : Nat → Option Nat) (ad : Nat → Nat) (M : Nat → Nat → Int32) (ns s_ : Nat) (hns : MX 4 0 = nI ns) (hn3 : ns ≤ 3) (hs : s_ < ns) (ha : sv s_ = some (as_ 100)) : Cr l D cA yX4_told cX4_told 4 (some .int) 2 ([.ref (ax 100), .int (nI s_), .int (nI 0)] : List Value) ((wX cA ax lo la ot MX sv) ++ (wS cA as_ (ad 100) L MS JS mk) ++ (wF cA ad M)) (fun r : Option Value => r = some (.int (MS 8 0))) := by
  refine x_met (by decide +kernel) rfl (Nat.le_of_ble_eq_true rfl) ?_
  intro xp xe xs xm xbl xme xco F hnm
  refine x_lv [(0, .ref (ax 100)), (1, .int (nI s_)), (2, .int (nI 0))] [0, 1, 2] rfl ?_
  refine x_aload_n F 0 dX4_told_0 rfl ?_
  refine x_iload_n F 1 dX4_told_1 rfl ?_
  refine x_callVr F [] [0, 1] (c_X4_solveOf1 l D cA ax lo la ot MX sv ns s_ (as_ 100) hns hn3 hs ha) mwX4_solveOf wmX4_68 rfl (q0 := 0) rfl rfl rfl (Nat.le_of_ble_eq_true rfl) ⟨by decide, by decide⟩ ⟨by show _ ≤ 0; omega, by show _ ≤ 0; omega⟩ rfl (by decide) dX4_told_2 (fun r1 hp2 => ?_)
  subst hp2
  refine x_astore_n F [(3, .ref (as_ 100)), (0, .ref (ax 100)), (1, .int (nI s_)), (2, .int (nI 0))] dX4_told_5 (by decide) rfl ?_
  refine x_aload_n F 0 dX4_told_6 rfl ?_
  refine x_ifnonnull_r F 13 dX4_told_7 (by decide) ?_
  refine x_iload_n F 3 dX4_told_13 rfl ?_
  refine x_top (nI 0) (rfl) ?_
  refine x_tableIn F 56 dX4_told_14 (by decide +kernel) (by decide +kernel) (off := 42) (by decide +kernel) (by decide) ?_
  refine x_aload_n F 0 dX4_told_56 rfl ?_
  refine x_get F inUX3 2 8 rfl rfl (by decide) wfX4_142 rfl dX4_told_57 ?_
  exact x_iret F () (rfl) (rfl) (by omega) (by omega) dX4_told_60

set_option maxHeartbeats 4000000 in
set_option maxRecDepth 100000 in
theorem c_X4_told_1 (l : Launch) (D : va_G) (cA : Nat → ClassId) (ax : Nat → Nat) (lo la ot : Nat) (MX : Nat → Nat → Int32) (sv : Nat → Option Nat) (as_ : Nat → Nat) (L : Nat) (MS : Nat → Nat → Int32) (JS : Nat → Nat → Int64) (mk : Nat → Option Nat) (ad : Nat → Nat) (M : Nat → Nat → Int32) (ns s_ : Nat) (hns : MX 4 0 = nI ns) (hn3 : ns ≤ 3) (hs : s_ < ns) (ha : sv s_ = some (as_ 100)) : Cr l D cA yX4_told cX4_told 4 (some .int) 2 ([.ref (ax 100), .int (nI s_), .int (nI 1)] : List Value) ((wX cA ax lo la ot MX sv) ++ (wS cA as_ (ad 100) L MS JS mk) ++ (wF cA ad M)) (fun r : Option Value => r = some (.int (M 0 0))) := by
  refine x_met (by decide +kernel) rfl (Nat.le_of_ble_eq_true rfl) ?_
  intro xp xe xs xm xbl xme xco F hnm
  refine x_lv [(0, .ref (ax 100)), (1, .int (nI s_)), (2, .int (nI 1))] [0, 1, 2] rfl ?_
  refine x_aload_n F 0 dX4_told_0 rfl ?_
  refine x_iload_n F 1 dX4_told_1 rfl ?_
  refine x_callVr F [] [0, 1] (c_X4_solveOf1 l D cA ax lo la ot MX sv ns s_ (as_ 100) hns hn3 hs ha) mwX4_solveOf wmX4_68 rfl (q0 := 0) rfl rfl rfl (Nat.le_of_ble_eq_true rfl) ⟨by decide, by decide⟩ ⟨by show _ ≤ 0; omega, by show _ ≤ 0; omega⟩ rfl (by decide) dX4_told_2 (fun r1 hp2 => ?_)
  subst hp2
  refine x_astore_n F [(3, .ref (as_ 100)), (0, .ref (ax 100)), (1, .int (nI s_)), (2, .int (nI 1))] dX4_told_5 (by decide) rfl ?_
  refine x_aload_n F 0 dX4_told_6 rfl ?_
  refine x_ifnonnull_r F 13 dX4_told_7 (by decide) ?_
  refine x_iload_n F 3 dX4_told_13 rfl ?_
  refine x_top (nI 1) (rfl) ?_
  refine x_tableIn F 61 dX4_told_14 (by decide +kernel) (by decide +kernel) (off := 47) (by decide +kernel) (by decide) ?_
  refine x_aload_n F 0 dX4_told_61 rfl ?_
  refine x_get F inUX3 2 0 rfl rfl (by decide) wfX4_103 rfl dX4_told_62 ?_
  refine x_get F inUX0 8 0 rfl rfl (by decide) wfX4_106 rfl dX4_told_65 ?_
  exact x_iret F () (rfl) (rfl) (by omega) (by omega) dX4_told_68

set_option maxHeartbeats 4000000 in
set_option maxRecDepth 100000 in
theorem c_X4_told_2 (l : Launch) (D : va_G) (cA : Nat → ClassId) (ax : Nat → Nat) (lo la ot : Nat) (MX : Nat → Nat → Int32) (sv : Nat → Option Nat) (as_ : Nat → Nat) (L : Nat) (MS : Nat → Nat → Int32) (JS : Nat → Nat → Int64) (mk : Nat → Option Nat) (ad : Nat → Nat) (M : Nat → Nat → Int32) (ns s_ : Nat) (hns : MX 4 0 = nI ns) (hn3 : ns ≤ 3) (hs : s_ < ns) (ha : sv s_ = some (as_ 100)) : Cr l D cA yX4_told cX4_told 4 (some .int) 2 ([.ref (ax 100), .int (nI s_), .int (nI 2)] : List Value) ((wX cA ax lo la ot MX sv) ++ (wS cA as_ (ad 100) L MS JS mk) ++ (wF cA ad M)) (fun r : Option Value => r = some (.int (MS 10 0))) := by
  refine x_met (by decide +kernel) rfl (Nat.le_of_ble_eq_true rfl) ?_
  intro xp xe xs xm xbl xme xco F hnm
  refine x_lv [(0, .ref (ax 100)), (1, .int (nI s_)), (2, .int (nI 2))] [0, 1, 2] rfl ?_
  refine x_aload_n F 0 dX4_told_0 rfl ?_
  refine x_iload_n F 1 dX4_told_1 rfl ?_
  refine x_callVr F [] [0, 1] (c_X4_solveOf1 l D cA ax lo la ot MX sv ns s_ (as_ 100) hns hn3 hs ha) mwX4_solveOf wmX4_68 rfl (q0 := 0) rfl rfl rfl (Nat.le_of_ble_eq_true rfl) ⟨by decide, by decide⟩ ⟨by show _ ≤ 0; omega, by show _ ≤ 0; omega⟩ rfl (by decide) dX4_told_2 (fun r1 hp2 => ?_)
  subst hp2
  refine x_astore_n F [(3, .ref (as_ 100)), (0, .ref (ax 100)), (1, .int (nI s_)), (2, .int (nI 2))] dX4_told_5 (by decide) rfl ?_
  refine x_aload_n F 0 dX4_told_6 rfl ?_
  refine x_ifnonnull_r F 13 dX4_told_7 (by decide) ?_
  refine x_iload_n F 3 dX4_told_13 rfl ?_
  refine x_top (nI 2) (rfl) ?_
  refine x_tableIn F 69 dX4_told_14 (by decide +kernel) (by decide +kernel) (off := 55) (by decide +kernel) (by decide) ?_
  refine x_aload_n F 0 dX4_told_69 rfl ?_
  refine x_get F inUX3 2 10 rfl rfl (by decide) wfX4_145 rfl dX4_told_70 ?_
  exact x_iret F () (rfl) (rfl) (by omega) (by omega) dX4_told_73

set_option maxHeartbeats 4000000 in
set_option maxRecDepth 100000 in
theorem c_X4_told_3 (l : Launch) (D : va_G) (cA : Nat → ClassId) (ax : Nat → Nat) (lo la ot : Nat) (MX : Nat → Nat → Int32) (sv : Nat → Option Nat) (as_ : Nat → Nat) (L : Nat) (MS : Nat → Nat → Int32) (JS : Nat → Nat → Int64) (mk : Nat → Option Nat) (ad : Nat → Nat) (M : Nat → Nat → Int32) (ns s_ : Nat) (hns : MX 4 0 = nI ns) (hn3 : ns ≤ 3) (hs : s_ < ns) (ha : sv s_ = some (as_ 100)) : Cr l D cA yX4_told cX4_told 4 (some .int) 2 ([.ref (ax 100), .int (nI s_), .int (nI 3)] : List Value) ((wX cA ax lo la ot MX sv) ++ (wS cA as_ (ad 100) L MS JS mk) ++ (wF cA ad M)) (fun r : Option Value => r = some (.int (MS 11 0))) := by
  refine x_met (by decide +kernel) rfl (Nat.le_of_ble_eq_true rfl) ?_
  intro xp xe xs xm xbl xme xco F hnm
  refine x_lv [(0, .ref (ax 100)), (1, .int (nI s_)), (2, .int (nI 3))] [0, 1, 2] rfl ?_
  refine x_aload_n F 0 dX4_told_0 rfl ?_
  refine x_iload_n F 1 dX4_told_1 rfl ?_
  refine x_callVr F [] [0, 1] (c_X4_solveOf1 l D cA ax lo la ot MX sv ns s_ (as_ 100) hns hn3 hs ha) mwX4_solveOf wmX4_68 rfl (q0 := 0) rfl rfl rfl (Nat.le_of_ble_eq_true rfl) ⟨by decide, by decide⟩ ⟨by show _ ≤ 0; omega, by show _ ≤ 0; omega⟩ rfl (by decide) dX4_told_2 (fun r1 hp2 => ?_)
  subst hp2
  refine x_astore_n F [(3, .ref (as_ 100)), (0, .ref (ax 100)), (1, .int (nI s_)), (2, .int (nI 3))] dX4_told_5 (by decide) rfl ?_
  refine x_aload_n F 0 dX4_told_6 rfl ?_
  refine x_ifnonnull_r F 13 dX4_told_7 (by decide) ?_
  refine x_iload_n F 3 dX4_told_13 rfl ?_
  refine x_top (nI 3) (rfl) ?_
  refine x_tableIn F 74 dX4_told_14 (by decide +kernel) (by decide +kernel) (off := 60) (by decide +kernel) (by decide) ?_
  refine x_aload_n F 0 dX4_told_74 rfl ?_
  refine x_get F inUX3 2 11 rfl rfl (by decide) wfX4_148 rfl dX4_told_75 ?_
  exact x_iret F () (rfl) (rfl) (by omega) (by omega) dX4_told_78

set_option maxHeartbeats 4000000 in
set_option maxRecDepth 100000 in
theorem c_X4_told_4 (l : Launch) (D : va_G) (cA : Nat → ClassId) (ax : Nat → Nat) (lo la ot : Nat) (MX : Nat → Nat → Int32) (sv : Nat → Option Nat) (as_ : Nat → Nat) (L : Nat) (MS : Nat → Nat → Int32) (JS : Nat → Nat → Int64) (mk : Nat → Option Nat) (ad : Nat → Nat) (M : Nat → Nat → Int32) (ns s_ : Nat) (hns : MX 4 0 = nI ns) (hn3 : ns ≤ 3) (hs : s_ < ns) (ha : sv s_ = some (as_ 100)) : Cr l D cA yX4_told cX4_told 4 (some .int) 2 ([.ref (ax 100), .int (nI s_), .int (nI 4)] : List Value) ((wX cA ax lo la ot MX sv) ++ (wS cA as_ (ad 100) L MS JS mk) ++ (wF cA ad M)) (fun r : Option Value => r = some (.int (MS 9 0))) := by
  refine x_met (by decide +kernel) rfl (Nat.le_of_ble_eq_true rfl) ?_
  intro xp xe xs xm xbl xme xco F hnm
  refine x_lv [(0, .ref (ax 100)), (1, .int (nI s_)), (2, .int (nI 4))] [0, 1, 2] rfl ?_
  refine x_aload_n F 0 dX4_told_0 rfl ?_
  refine x_iload_n F 1 dX4_told_1 rfl ?_
  refine x_callVr F [] [0, 1] (c_X4_solveOf1 l D cA ax lo la ot MX sv ns s_ (as_ 100) hns hn3 hs ha) mwX4_solveOf wmX4_68 rfl (q0 := 0) rfl rfl rfl (Nat.le_of_ble_eq_true rfl) ⟨by decide, by decide⟩ ⟨by show _ ≤ 0; omega, by show _ ≤ 0; omega⟩ rfl (by decide) dX4_told_2 (fun r1 hp2 => ?_)
  subst hp2
  refine x_astore_n F [(3, .ref (as_ 100)), (0, .ref (ax 100)), (1, .int (nI s_)), (2, .int (nI 4))] dX4_told_5 (by decide) rfl ?_
  refine x_aload_n F 0 dX4_told_6 rfl ?_
  refine x_ifnonnull_r F 13 dX4_told_7 (by decide) ?_
  refine x_iload_n F 3 dX4_told_13 rfl ?_
  refine x_top (nI 4) (rfl) ?_
  refine x_tableIn F 79 dX4_told_14 (by decide +kernel) (by decide +kernel) (off := 65) (by decide +kernel) (by decide) ?_
  refine x_aload_n F 0 dX4_told_79 rfl ?_
  refine x_get F inUX3 2 9 rfl rfl (by decide) wfX4_151 rfl dX4_told_80 ?_
  exact x_iret F () (rfl) (rfl) (by omega) (by omega) dX4_told_83

set_option maxHeartbeats 4000000 in
set_option maxRecDepth 100000 in
theorem c_X4_told_5 (l : Launch) (D : va_G) (cA : Nat → ClassId) (ax : Nat → Nat) (lo la ot : Nat) (MX : Nat → Nat → Int32) (sv : Nat → Option Nat) (as_ : Nat → Nat) (L : Nat) (MS : Nat → Nat → Int32) (JS : Nat → Nat → Int64) (mk : Nat → Option Nat) (ad : Nat → Nat) (M : Nat → Nat → Int32) (ns s_ : Nat) (t : Nat) (hns : MX 4 0 = nI ns) (hn3 : ns ≤ 3) (hs : s_ < ns) (ha : sv s_ = some (as_ 100)) (ht : MS 8 0 = nI t) (ht2 : t < 2 ^ 31) (hL0 : 0 < L) (hL : L < 2 ^ 31) : Cr l D cA yX4_told cX4_told 4 (some .int) 3 ([.ref (ax 100), .int (nI s_), .int (nI 5)] : List Value) ((wX cA ax lo la ot MX sv) ++ (wS cA as_ (ad 100) L MS JS mk) ++ (wF cA ad M)) (fun r : Option Value => r = some (.int (if nI 1 = 0 then (JS 3 (t % L)).toInt32 else (JS 3 (t % L) >>> ((nI 32).toInt64 &&& 63)).toInt32))) := by
  refine x_met (by decide +kernel) rfl (Nat.le_of_ble_eq_true rfl) ?_
  intro xp xe xs xm xbl xme xco F hnm
  refine x_lv [(0, .ref (ax 100)), (1, .int (nI s_)), (2, .int (nI 5))] [0, 1, 2] rfl ?_
  refine x_aload_n F 0 dX4_told_0 rfl ?_
  refine x_iload_n F 1 dX4_told_1 rfl ?_
  refine x_callVr F [] [0, 1] (c_X4_solveOf1 l D cA ax lo la ot MX sv ns s_ (as_ 100) hns hn3 hs ha) mwX4_solveOf wmX4_68 rfl (q0 := 0) rfl rfl rfl (Nat.le_of_ble_eq_true rfl) ⟨by decide, by decide⟩ ⟨by show _ ≤ 0; omega, by show _ ≤ 0; omega⟩ rfl (by decide) dX4_told_2 (fun r1 hp2 => ?_)
  subst hp2
  refine x_astore_n F [(3, .ref (as_ 100)), (0, .ref (ax 100)), (1, .int (nI s_)), (2, .int (nI 5))] dX4_told_5 (by decide) rfl ?_
  refine x_aload_n F 0 dX4_told_6 rfl ?_
  refine x_ifnonnull_r F 13 dX4_told_7 (by decide) ?_
  refine x_iload_n F 3 dX4_told_13 rfl ?_
  refine x_top (nI 5) (rfl) ?_
  refine x_tableIn F 84 dX4_told_14 (by decide +kernel) (by decide +kernel) (off := 70) (by decide +kernel) (by decide) ?_
  refine x_aload_n F 0 dX4_told_84 rfl ?_
  refine x_get F inUX3 2 3 rfl rfl (by decide) wfX4_92 rfl dX4_told_85 ?_
  refine x_aload_n F 0 dX4_told_88 rfl ?_
  refine x_callVr F [.ref (as_ 3)] [2, 3, 4, 5, 6, 7] (c_X3_latePlace l D cA as_ L MS JS mk (ad 100) t ht ht2 hL0 hL) mwX3_latePlace wmX4_154 rfl (q0 := 0) rfl rfl rfl (Nat.le_of_ble_eq_true rfl) ⟨by decide, by decide⟩ ⟨by show _ ≤ 0; omega, by show _ ≤ 0; omega⟩ rfl (by decide) dX4_told_89 (fun r3 hp4 => ?_)
  subst hp4
  have htl := Nat.mod_lt t hL0
  refine x_lald F 5 (k := t % L) rfl (by omega) (by omega) dX4_told_92 ?_
  refine x_iconst F (nI 1) dX4_told_93 (by decide +kernel) ?_
  refine x_callSr F [] [] (c_X4_partOf l D cA (JS 3 (t % L)) (nI 1)) mwX4_partOf wmX4_125 rfl rfl (Nat.le_of_ble_eq_true rfl) ⟨by decide, by decide⟩ ⟨by show _ ≤ 0; omega, by show _ ≤ 0; omega⟩ rfl (by decide) dX4_told_94 (fun r5 hp6 => ?_)
  subst hp6
  exact x_iret F () (rfl) (rfl) (by omega) (by omega) dX4_told_97

set_option maxHeartbeats 4000000 in
set_option maxRecDepth 100000 in
theorem c_X4_told_6 (l : Launch) (D : va_G) (cA : Nat → ClassId) (ax : Nat → Nat) (lo la ot : Nat) (MX : Nat → Nat → Int32) (sv : Nat → Option Nat) (as_ : Nat → Nat) (L : Nat) (MS : Nat → Nat → Int32) (JS : Nat → Nat → Int64) (mk : Nat → Option Nat) (ad : Nat → Nat) (M : Nat → Nat → Int32) (ns s_ : Nat) (t : Nat) (hns : MX 4 0 = nI ns) (hn3 : ns ≤ 3) (hs : s_ < ns) (ha : sv s_ = some (as_ 100)) (ht : MS 8 0 = nI t) (ht2 : t < 2 ^ 31) (hL0 : 0 < L) (hL : L < 2 ^ 31) : Cr l D cA yX4_told cX4_told 4 (some .int) 3 ([.ref (ax 100), .int (nI s_), .int (nI 6)] : List Value) ((wX cA ax lo la ot MX sv) ++ (wS cA as_ (ad 100) L MS JS mk) ++ (wF cA ad M)) (fun r : Option Value => r = some (.int (if nI 0 = 0 then (JS 3 (t % L)).toInt32 else (JS 3 (t % L) >>> ((nI 32).toInt64 &&& 63)).toInt32))) := by
  refine x_met (by decide +kernel) rfl (Nat.le_of_ble_eq_true rfl) ?_
  intro xp xe xs xm xbl xme xco F hnm
  refine x_lv [(0, .ref (ax 100)), (1, .int (nI s_)), (2, .int (nI 6))] [0, 1, 2] rfl ?_
  refine x_aload_n F 0 dX4_told_0 rfl ?_
  refine x_iload_n F 1 dX4_told_1 rfl ?_
  refine x_callVr F [] [0, 1] (c_X4_solveOf1 l D cA ax lo la ot MX sv ns s_ (as_ 100) hns hn3 hs ha) mwX4_solveOf wmX4_68 rfl (q0 := 0) rfl rfl rfl (Nat.le_of_ble_eq_true rfl) ⟨by decide, by decide⟩ ⟨by show _ ≤ 0; omega, by show _ ≤ 0; omega⟩ rfl (by decide) dX4_told_2 (fun r1 hp2 => ?_)
  subst hp2
  refine x_astore_n F [(3, .ref (as_ 100)), (0, .ref (ax 100)), (1, .int (nI s_)), (2, .int (nI 6))] dX4_told_5 (by decide) rfl ?_
  refine x_aload_n F 0 dX4_told_6 rfl ?_
  refine x_ifnonnull_r F 13 dX4_told_7 (by decide) ?_
  refine x_iload_n F 3 dX4_told_13 rfl ?_
  refine x_top (nI 6) (rfl) ?_
  refine x_tableIn F 98 dX4_told_14 (by decide +kernel) (by decide +kernel) (off := 84) (by decide +kernel) (by decide) ?_
  refine x_aload_n F 0 dX4_told_98 rfl ?_
  refine x_get F inUX3 2 3 rfl rfl (by decide) wfX4_92 rfl dX4_told_99 ?_
  refine x_aload_n F 0 dX4_told_102 rfl ?_
  refine x_callVr F [.ref (as_ 3)] [2, 3, 4, 5, 6, 7] (c_X3_latePlace l D cA as_ L MS JS mk (ad 100) t ht ht2 hL0 hL) mwX3_latePlace wmX4_154 rfl (q0 := 0) rfl rfl rfl (Nat.le_of_ble_eq_true rfl) ⟨by decide, by decide⟩ ⟨by show _ ≤ 0; omega, by show _ ≤ 0; omega⟩ rfl (by decide) dX4_told_103 (fun r3 hp4 => ?_)
  subst hp4
  have htl := Nat.mod_lt t hL0
  refine x_lald F 5 (k := t % L) rfl (by omega) (by omega) dX4_told_106 ?_
  refine x_iconst F (nI 0) dX4_told_107 (by decide +kernel) ?_
  refine x_callSr F [] [] (c_X4_partOf l D cA (JS 3 (t % L)) (nI 0)) mwX4_partOf wmX4_125 rfl rfl (Nat.le_of_ble_eq_true rfl) ⟨by decide, by decide⟩ ⟨by show _ ≤ 0; omega, by show _ ≤ 0; omega⟩ rfl (by decide) dX4_told_108 (fun r5 hp6 => ?_)
  subst hp6
  exact x_iret F () (rfl) (rfl) (by omega) (by omega) dX4_told_111

set_option maxHeartbeats 4000000 in
set_option maxRecDepth 100000 in
theorem c_X4_told_b1 (l : Launch) (D : va_G) (cA : Nat → ClassId) (ax : Nat → Nat) (lo la ot : Nat) (MX : Nat → Nat → Int32) (sv : Nat → Option Nat) (ns s_ : Nat) (as_ : Nat → Nat) (p2 : Int32) (hns : MX 4 0 = nI ns) (hn3 : ns ≤ 3) (hs : s_ < ns) (ha : sv s_ = some (as_ 100)) (hb : p2.toInt < 0 ∨ 6 < p2.toInt) : Cr l D cA yX4_told cX4_told 4 (some .int) 2 ([.ref (ax 100), .int (nI s_), .int p2] : List Value) (wX cA ax lo la ot MX sv) (fun r : Option Value => r = some (.int (-2147483648))) := by
  refine x_met (by decide +kernel) rfl (Nat.le_of_ble_eq_true rfl) ?_
  intro xp xe xs xm xbl xme xco F hnm
  refine x_lv [(0, .ref (ax 100)), (1, .int (nI s_)), (2, .int p2)] [0, 1, 2] rfl ?_
  refine x_aload_n F 0 dX4_told_0 rfl ?_
  refine x_iload_n F 1 dX4_told_1 rfl ?_
  refine x_callVr F [] [0, 1] (c_X4_solveOf1 l D cA ax lo la ot MX sv ns s_ (as_ 100) hns hn3 hs ha) mwX4_solveOf wmX4_68 rfl (q0 := 0) rfl rfl rfl (Nat.le_of_ble_eq_true rfl) ⟨by decide, by decide⟩ ⟨by show _ ≤ 0; omega, by show _ ≤ 0; omega⟩ rfl (by decide) dX4_told_2 (fun r1 hp2 => ?_)
  subst hp2
  refine x_astore_n F [(3, .ref (as_ 100)), (0, .ref (ax 100)), (1, .int (nI s_)), (2, .int p2)] dX4_told_5 (by decide) rfl ?_
  refine x_aload_n F 0 dX4_told_6 rfl ?_
  refine x_ifnonnull_r F 13 dX4_told_7 (by decide) ?_
  refine x_iload_n F 3 dX4_told_13 rfl ?_
  refine x_tableOut F 112 dX4_told_14 hb (by decide) ?_
  refine x_ldc F (-2147483648) wvX4_141 dX4_told_112 ?_
  exact x_iret F () (rfl) (rfl) (by omega) (by omega) dX4_told_114

/-- likeness of the first n jobs' places -/
def lkS (MS MT : Nat → Nat → Int32) (n : Nat) : Prop := ∀ j, j < n → MS 1 j = MT 1 j ∧ MS 2 j = MT 2 j
theorem lkS_s {MS MT : Nat → Nat → Int32} {n : Nat} (h : lkS MS MT n) (h1 : MS 1 n = MT 1 n) (h2 : MS 2 n = MT 2 n) : lkS MS MT (n + 1) := fun j hj => by
  by_cases e : j = n
  · rw [e]; exact ⟨h1, h2⟩
  · exact h j (by omega)
set_option maxHeartbeats 4000000 in
set_option maxRecDepth 100000 in
theorem c_X3_isLike2 (l : Launch) (D : va_G) (cA : Nat → ClassId) (as_ : Nat → Nat) (L : Nat) (MS : Nat → Nat → Int32) (JS : Nat → Nat → Int64) (mk : Nat → Option Nat) (ad : Nat → Nat) (M : Nat → Nat → Int32) (at_ : Nat → Nat) (L2 : Nat) (MT : Nat → Nat → Int32) (JT : Nat → Nat → Int64) (mt : Nat → Option Nat) (ae : Nat → Nat) (ME : Nat → Nat → Int32)  : Cr l D cA yX3_isLike cX3_isLike 3 (some .boolean) 0 ([.ref (as_ 100), .ref (at_ 100)] : List Value) ((wS cA as_ (ad 100) L MS JS mk) ++ (wF cA ad M) ++ (wS cA at_ (ae 100) L2 MT JT mt) ++ (wF cA ae ME)) (fun r : Option Value => ∃ x, r = some (.int x) ∧ (x = 1 ∨ x = 0) ∧ (x = 1 ↔ M 0 0 = ME 0 0 ∧ lkS MS MT 16)) := by
  refine x_met (by decide +kernel) rfl (Nat.le_of_ble_eq_true rfl) ?_
  intro xp xe xs xm xbl xme xco F hnm
  refine x_lv [(0, .ref (as_ 100)), (1, .ref (at_ 100))] [0, 1] rfl ?_
  refine x_aload_n F 0 dX3_isLike_0 rfl ?_
  refine x_get F inUX3 0 0 rfl rfl (by decide) wfX3_12 rfl dX3_isLike_1 ?_
  refine x_get F inUX0 6 0 rfl rfl (by decide) wfX3_68 rfl dX3_isLike_4 ?_
  refine x_aload_n F 1 dX3_isLike_7 rfl ?_
  refine x_get F inUX3 16 0 rfl rfl (by decide) wfX3_12 rfl dX3_isLike_8 ?_
  refine x_get F inUX0 22 0 rfl rfl (by decide) wfX3_68 rfl dX3_isLike_11 ?_
  refine x_icmp_eq F 19 dX3_isLike_14 (by decide) (fun h14 => ?_) (fun h14 => ?_)
  · refine x_iconst F (nI 0) dX3_isLike_19 (by decide +kernel) ?_
    refine x_istore_n F [(2, .int (nI 0)), (0, .ref (as_ 100)), (1, .ref (at_ 100))] dX3_isLike_20 (by decide) rfl ?_
    refine x_lv [(0, .ref (as_ 100)), (1, .ref (at_ 100)), (2, .int (nI 0))] [1, 2, 0] rfl ?_
    have loop21 : ∀ (nn21 : Nat) (x : Nat), (x ≤ 16) → (lkS MS MT x) → (16 - x < nn21) → Wx xp l xe (rmL 0 0 0) xs xm ([.ref (as_ 100), .ref (at_ 100)] : List Value).toArray xbl xme xco 0 0 (xQ xbl D ((wS cA as_ (ad 100) L MS JS mk) ++ (wF cA ad M) ++ (wS cA at_ (ae 100) L2 MT JT mt) ++ (wF cA ae ME)) xs ([.ref (as_ 100), .ref (at_ 100)] : List Value).toArray 0 0 (fun (r : Option Value) (_ : Unit) => ∃ x, r = some (.int x) ∧ (x = 1 ∨ x = 0) ∧ (x = 1 ↔ M 0 0 = ME 0 0 ∧ lkS MS MT 16)) (fun _ : Unit => (wS cA as_ (ad 100) L MS JS mk) ++ (wF cA ad M) ++ (wS cA at_ (ae 100) L2 MT JT mt) ++ (wF cA ae ME))) 3 D (va_A ((wS cA as_ (ad 100) L MS JS mk) ++ (wF cA ad M) ++ (wS cA at_ (ae 100) L2 MT JT mt) ++ (wF cA ae ME)) xs.heap.size) 21 [(0, .ref (as_ 100)), (1, .ref (at_ 100)), (2, .int (nI x))] [] ((wS cA as_ (ad 100) L MS JS mk) ++ (wF cA ad M) ++ (wS cA at_ (ae 100) L2 MT JT mt) ++ (wF cA ae ME)) := by
      intro nn21
      induction nn21 with
      | zero =>
        intro x hx hx2 hm21
        exact absurd hm21 (Nat.not_lt_zero _)
      | succ nn21 ih21 =>
        intro x hx hx2 hm21
        refine x_iload_n F 2 dX3_isLike_21 rfl ?_
        refine x_bipush F (nI 16) dX3_isLike_22 (by decide +kernel) ?_
        refine x_icmp_ge F 65 dX3_isLike_24 (by decide) (fun h24 => ?_) (fun h24 => ?_)
        · have h24n : 16 ≤ x := (nI_leI (by decide) (by omega)).mp h24
          obtain rfl : 16 = x := by omega
          refine x_iconst F (nI 1) dX3_isLike_65 (by decide +kernel) ?_
          exact x_zret F (by decide +kernel) () (⟨_, rfl, Or.inl rfl, fun _ => ⟨h14, hx2⟩, fun _ => rfl⟩) (rfl) (by omega) (by omega) dX3_isLike_66
        · have h24n : ¬ 16 ≤ x := fun z => h24 ((nI_leI (by decide) (by omega)).mpr z)
          refine x_aload_n F 0 dX3_isLike_27 rfl ?_
          refine x_get F inUX3 0 1 rfl rfl (by decide) wfX3_22 rfl dX3_isLike_28 ?_
          refine x_iload_n F 2 dX3_isLike_31 rfl ?_
          refine x_iald F 1 (k := x) rfl (by omega) (by decide) dX3_isLike_32 ?_
          refine x_aload_n F 1 dX3_isLike_33 rfl ?_
          refine x_get F inUX3 16 1 rfl rfl (by decide) wfX3_22 rfl dX3_isLike_34 ?_
          refine x_iload_n F 2 dX3_isLike_37 rfl ?_
          refine x_iald F 17 (k := x) rfl (by omega) (by decide) dX3_isLike_38 ?_
          refine x_icmp_ne F 57 dX3_isLike_39 (by decide) (fun h39 => ?_) (fun h39 => ?_)
          · refine x_iconst F (nI 0) dX3_isLike_57 (by decide +kernel) ?_
            exact x_zret F (by decide +kernel) () (⟨_, rfl, Or.inr rfl, fun z => absurd z (by decide +kernel), fun z => absurd (z.2 x (by omega)).1 h39⟩) (rfl) (by omega) (by omega) dX3_isLike_58
          · refine x_aload_n F 0 dX3_isLike_42 rfl ?_
            refine x_get F inUX3 0 2 rfl rfl (by decide) wfX3_26 rfl dX3_isLike_43 ?_
            refine x_iload_n F 2 dX3_isLike_46 rfl ?_
            refine x_iald F 2 (k := x) rfl (by omega) (by decide) dX3_isLike_47 ?_
            refine x_aload_n F 1 dX3_isLike_48 rfl ?_
            refine x_get F inUX3 16 2 rfl rfl (by decide) wfX3_26 rfl dX3_isLike_49 ?_
            refine x_iload_n F 2 dX3_isLike_52 rfl ?_
            refine x_iald F 18 (k := x) rfl (by omega) (by decide) dX3_isLike_53 ?_
            refine x_icmp_eq F 59 dX3_isLike_54 (by decide) (fun h54 => ?_) (fun h54 => ?_)
            · refine x_iinc F (nI (x + 1)) 2 [(2, .int (nI (x + 1))), (0, .ref (as_ 100)), (1, .ref (at_ 100))] dX3_isLike_59 rfl ((nI_add x 1)) (by decide) rfl ?_
              refine x_goto F 21 dX3_isLike_62 (by decide) ?_
              refine x_lv [(0, .ref (as_ 100)), (1, .ref (at_ 100)), (2, .int (nI (x + 1)))] [1, 2, 0] rfl ?_
              exact ih21 (x + 1) (by omega) (lkS_s hx2 h39 h54) (by omega)
            · refine x_iconst F (nI 0) dX3_isLike_57 (by decide +kernel) ?_
              exact x_zret F (by decide +kernel) () (⟨_, rfl, Or.inr rfl, fun z => absurd z (by decide +kernel), fun z => absurd (z.2 x (by omega)).2 h54⟩) (rfl) (by omega) (by omega) dX3_isLike_58
    exact loop21 _ 0 (Nat.zero_le _) (fun j hj => absurd hj (Nat.not_lt_zero _)) (Nat.lt_succ_self _)
  · refine x_iconst F (nI 0) dX3_isLike_17 (by decide +kernel) ?_
    exact x_zret F (by decide +kernel) () (⟨_, rfl, Or.inr rfl, fun z => absurd z (by decide +kernel), fun z => absurd z.1 h14⟩) (rfl) (by omega) (by omega) dX3_isLike_18

set_option maxHeartbeats 4000000 in
set_option maxRecDepth 100000 in
theorem c_X3_isLike1 (l : Launch) (D : va_G) (cA : Nat → ClassId) (as_ : Nat → Nat) (L : Nat) (MS : Nat → Nat → Int32) (JS : Nat → Nat → Int64) (mk : Nat → Option Nat) (ad : Nat → Nat) (M : Nat → Nat → Int32)  : Cr l D cA yX3_isLike cX3_isLike 3 (some .boolean) 0 ([.ref (as_ 100), .ref (as_ 100)] : List Value) ((wS cA as_ (ad 100) L MS JS mk) ++ (wF cA ad M)) (fun r : Option Value => ∃ x, r = some (.int x) ∧ (x = 1 ∨ x = 0) ∧ (x = 1 ↔ M 0 0 = M 0 0 ∧ lkS MS MS 16)) := by
  refine x_met (by decide +kernel) rfl (Nat.le_of_ble_eq_true rfl) ?_
  intro xp xe xs xm xbl xme xco F hnm
  refine x_lv [(0, .ref (as_ 100)), (1, .ref (as_ 100))] [0, 1] rfl ?_
  refine x_aload_n F 0 dX3_isLike_0 rfl ?_
  refine x_get F inUX3 0 0 rfl rfl (by decide) wfX3_12 rfl dX3_isLike_1 ?_
  refine x_get F inUX0 6 0 rfl rfl (by decide) wfX3_68 rfl dX3_isLike_4 ?_
  refine x_aload_n F 1 dX3_isLike_7 rfl ?_
  refine x_get F inUX3 0 0 rfl rfl (by decide) wfX3_12 rfl dX3_isLike_8 ?_
  refine x_get F inUX0 6 0 rfl rfl (by decide) wfX3_68 rfl dX3_isLike_11 ?_
  refine x_icmp_eq F 19 dX3_isLike_14 (by decide) (fun h14 => ?_) (fun h14 => ?_)
  · refine x_iconst F (nI 0) dX3_isLike_19 (by decide +kernel) ?_
    refine x_istore_n F [(2, .int (nI 0)), (0, .ref (as_ 100)), (1, .ref (as_ 100))] dX3_isLike_20 (by decide) rfl ?_
    refine x_lv [(0, .ref (as_ 100)), (1, .ref (as_ 100)), (2, .int (nI 0))] [1, 2, 0] rfl ?_
    have loop21 : ∀ (nn21 : Nat) (x : Nat), (x ≤ 16) → (lkS MS MS x) → (16 - x < nn21) → Wx xp l xe (rmL 0 0 0) xs xm ([.ref (as_ 100), .ref (as_ 100)] : List Value).toArray xbl xme xco 0 0 (xQ xbl D ((wS cA as_ (ad 100) L MS JS mk) ++ (wF cA ad M)) xs ([.ref (as_ 100), .ref (as_ 100)] : List Value).toArray 0 0 (fun (r : Option Value) (_ : Unit) => ∃ x, r = some (.int x) ∧ (x = 1 ∨ x = 0) ∧ (x = 1 ↔ M 0 0 = M 0 0 ∧ lkS MS MS 16)) (fun _ : Unit => (wS cA as_ (ad 100) L MS JS mk) ++ (wF cA ad M))) 3 D (va_A ((wS cA as_ (ad 100) L MS JS mk) ++ (wF cA ad M)) xs.heap.size) 21 [(0, .ref (as_ 100)), (1, .ref (as_ 100)), (2, .int (nI x))] [] ((wS cA as_ (ad 100) L MS JS mk) ++ (wF cA ad M)) := by
      intro nn21
      induction nn21 with
      | zero =>
        intro x hx hx2 hm21
        exact absurd hm21 (Nat.not_lt_zero _)
      | succ nn21 ih21 =>
        intro x hx hx2 hm21
        refine x_iload_n F 2 dX3_isLike_21 rfl ?_
        refine x_bipush F (nI 16) dX3_isLike_22 (by decide +kernel) ?_
        refine x_icmp_ge F 65 dX3_isLike_24 (by decide) (fun h24 => ?_) (fun h24 => ?_)
        · have h24n : 16 ≤ x := (nI_leI (by decide) (by omega)).mp h24
          obtain rfl : 16 = x := by omega
          refine x_iconst F (nI 1) dX3_isLike_65 (by decide +kernel) ?_
          exact x_zret F (by decide +kernel) () (⟨_, rfl, Or.inl rfl, fun _ => ⟨h14, hx2⟩, fun _ => rfl⟩) (rfl) (by omega) (by omega) dX3_isLike_66
        · have h24n : ¬ 16 ≤ x := fun z => h24 ((nI_leI (by decide) (by omega)).mpr z)
          refine x_aload_n F 0 dX3_isLike_27 rfl ?_
          refine x_get F inUX3 0 1 rfl rfl (by decide) wfX3_22 rfl dX3_isLike_28 ?_
          refine x_iload_n F 2 dX3_isLike_31 rfl ?_
          refine x_iald F 1 (k := x) rfl (by omega) (by decide) dX3_isLike_32 ?_
          refine x_aload_n F 1 dX3_isLike_33 rfl ?_
          refine x_get F inUX3 0 1 rfl rfl (by decide) wfX3_22 rfl dX3_isLike_34 ?_
          refine x_iload_n F 2 dX3_isLike_37 rfl ?_
          refine x_iald F 1 (k := x) rfl (by omega) (by decide) dX3_isLike_38 ?_
          refine x_icmp_ne F 57 dX3_isLike_39 (by decide) (fun h39 => ?_) (fun h39 => ?_)
          · refine x_iconst F (nI 0) dX3_isLike_57 (by decide +kernel) ?_
            exact x_zret F (by decide +kernel) () (⟨_, rfl, Or.inr rfl, fun z => absurd z (by decide +kernel), fun z => absurd (z.2 x (by omega)).1 h39⟩) (rfl) (by omega) (by omega) dX3_isLike_58
          · refine x_aload_n F 0 dX3_isLike_42 rfl ?_
            refine x_get F inUX3 0 2 rfl rfl (by decide) wfX3_26 rfl dX3_isLike_43 ?_
            refine x_iload_n F 2 dX3_isLike_46 rfl ?_
            refine x_iald F 2 (k := x) rfl (by omega) (by decide) dX3_isLike_47 ?_
            refine x_aload_n F 1 dX3_isLike_48 rfl ?_
            refine x_get F inUX3 0 2 rfl rfl (by decide) wfX3_26 rfl dX3_isLike_49 ?_
            refine x_iload_n F 2 dX3_isLike_52 rfl ?_
            refine x_iald F 2 (k := x) rfl (by omega) (by decide) dX3_isLike_53 ?_
            refine x_icmp_eq F 59 dX3_isLike_54 (by decide) (fun h54 => ?_) (fun h54 => ?_)
            · refine x_iinc F (nI (x + 1)) 2 [(2, .int (nI (x + 1))), (0, .ref (as_ 100)), (1, .ref (as_ 100))] dX3_isLike_59 rfl ((nI_add x 1)) (by decide) rfl ?_
              refine x_goto F 21 dX3_isLike_62 (by decide) ?_
              refine x_lv [(0, .ref (as_ 100)), (1, .ref (as_ 100)), (2, .int (nI (x + 1)))] [1, 2, 0] rfl ?_
              exact ih21 (x + 1) (by omega) (lkS_s hx2 h39 h54) (by omega)
            · refine x_iconst F (nI 0) dX3_isLike_57 (by decide +kernel) ?_
              exact x_zret F (by decide +kernel) () (⟨_, rfl, Or.inr rfl, fun z => absurd z (by decide +kernel), fun z => absurd (z.2 x (by omega)).2 h54⟩) (rfl) (by omega) (by omega) dX3_isLike_58
    exact loop21 _ 0 (Nat.zero_le _) (fun j hj => absurd hj (Nat.not_lt_zero _)) (Nat.lt_succ_self _)
  · refine x_iconst F (nI 0) dX3_isLike_17 (by decide +kernel) ?_
    exact x_zret F (by decide +kernel) () (⟨_, rfl, Or.inr rfl, fun z => absurd z (by decide +kernel), fun z => absurd z.1 h14⟩) (rfl) (by omega) (by omega) dX3_isLike_18

set_option maxHeartbeats 4000000 in
set_option maxRecDepth 100000 in
theorem c_X4_same2 (l : Launch) (D : va_G) (cA : Nat → ClassId) (ax : Nat → Nat) (lo la ot : Nat) (MX : Nat → Nat → Int32) (sv : Nat → Option Nat) (as_ : Nat → Nat) (L : Nat) (MS : Nat → Nat → Int32) (JS : Nat → Nat → Int64) (mk : Nat → Option Nat) (ad : Nat → Nat) (M : Nat → Nat → Int32) (at_ : Nat → Nat) (L2 : Nat) (MT : Nat → Nat → Int32) (JT : Nat → Nat → Int64) (mt : Nat → Option Nat) (ae : Nat → Nat) (ME : Nat → Nat → Int32) (ns s_ v_ : Nat) (hns : MX 4 0 = nI ns) (hn3 : ns ≤ 3) (hs : s_ < ns) (ha : sv s_ = some (as_ 100)) (hv : v_ < ns) (ha2 : sv v_ = some (at_ 100)) : Cr l D cA yX4_same cX4_same 5 (some .int) 2 ([.ref (ax 100), .int (nI s_), .int (nI v_)] : List Value) ((wX cA ax lo la ot MX sv) ++ (wS cA as_ (ad 100) L MS JS mk) ++ (wF cA ad M) ++ (wS cA at_ (ae 100) L2 MT JT mt) ++ (wF cA ae ME)) (fun r : Option Value => ∃ x, r = some (.int x) ∧ (x = 1 ∨ x = 0) ∧ (x = 1 ↔ M 0 0 = ME 0 0 ∧ lkS MS MT 16)) := by
  refine x_met (by decide +kernel) rfl (Nat.le_of_ble_eq_true rfl) ?_
  intro xp xe xs xm xbl xme xco F hnm
  refine x_lv [(0, .ref (ax 100)), (1, .int (nI s_)), (2, .int (nI v_))] [0, 1, 2] rfl ?_
  refine x_aload_n F 0 dX4_same_0 rfl ?_
  refine x_iload_n F 1 dX4_same_1 rfl ?_
  refine x_callVr F [] [0, 1] (c_X4_solveOf1 l D cA ax lo la ot MX sv ns s_ (as_ 100) hns hn3 hs ha) mwX4_solveOf wmX4_68 rfl (q0 := 0) rfl rfl rfl (Nat.le_of_ble_eq_true rfl) ⟨by decide, by decide⟩ ⟨by show _ ≤ 0; omega, by show _ ≤ 0; omega⟩ rfl (by decide) dX4_same_2 (fun r1 hp2 => ?_)
  subst hp2
  refine x_astore_n F [(3, .ref (as_ 100)), (0, .ref (ax 100)), (1, .int (nI s_)), (2, .int (nI v_))] dX4_same_5 (by decide) rfl ?_
  refine x_aload_n F 1 dX4_same_6 rfl ?_
  refine x_iload_n F 3 dX4_same_7 rfl ?_
  refine x_callVr F [] [0, 1] (c_X4_solveOf1 l D cA ax lo la ot MX sv ns v_ (at_ 100) hns hn3 hv ha2) mwX4_solveOf wmX4_68 rfl (q0 := 0) rfl rfl rfl (Nat.le_of_ble_eq_true rfl) ⟨by decide, by decide⟩ ⟨by show _ ≤ 0; omega, by show _ ≤ 0; omega⟩ rfl (by decide) dX4_same_8 (fun r3 hp4 => ?_)
  subst hp4
  refine x_astore F [(4, .ref (at_ 100)), (3, .ref (as_ 100)), (0, .ref (ax 100)), (1, .int (nI s_)), (2, .int (nI v_))] dX4_same_11 (by decide) rfl ?_
  refine x_aload_n F 1 dX4_same_13 rfl ?_
  refine x_ifnull_r F dX4_same_14 ?_
  refine x_aload F 0 dX4_same_17 rfl ?_
  refine x_ifnonnull_r F 25 dX4_same_19 (by decide) ?_
  refine x_aload_n F 1 dX4_same_25 rfl ?_
  refine x_aload F 0 dX4_same_26 rfl ?_
  refine x_callVr F [] [2, 3, 4, 5, 6, 7, 8, 9, 10, 11, 12, 13, 14, 15, 16, 17, 18, 19, 20, 21, 22, 23, 24, 25, 26, 27, 28, 29, 30, 31, 32, 33] (c_X3_isLike2 l D cA as_ L MS JS mk ad M at_ L2 MT JT mt ae ME) mwX3_isLike wmX4_137 rfl (q0 := 0) rfl rfl rfl (Nat.le_of_ble_eq_true rfl) ⟨by decide, by decide⟩ ⟨by show _ ≤ 0; omega, by show _ ≤ 0; omega⟩ rfl (by decide) dX4_same_28 (fun r5 hp6 => ?_)
  obtain ⟨xq, rfl, hx01, hxi⟩ := hp6
  refine x_if_eq F 38 dX4_same_31 (by decide) (fun h31 => ?_) (fun h31 => ?_)
  · refine x_iconst F (nI 0) dX4_same_38 (by decide +kernel) ?_
    exact x_iret F () (⟨_, rfl, Or.inr rfl, fun z => absurd z (by decide +kernel), fun z => by rw [hxi.mpr z] at h31; exact absurd h31 (by decide +kernel)⟩) (rfl) (by omega) (by omega) dX4_same_39
  · refine x_iconst F (nI 1) dX4_same_34 (by decide +kernel) ?_
    refine x_goto F 39 dX4_same_35 (by decide) ?_
    exact x_iret F () (⟨_, rfl, Or.inl rfl, fun _ => hxi.mp (hx01.resolve_right h31), fun _ => rfl⟩) (rfl) (by omega) (by omega) dX4_same_39

set_option maxHeartbeats 4000000 in
set_option maxRecDepth 100000 in
theorem c_X4_same1 (l : Launch) (D : va_G) (cA : Nat → ClassId) (ax : Nat → Nat) (lo la ot : Nat) (MX : Nat → Nat → Int32) (sv : Nat → Option Nat) (as_ : Nat → Nat) (L : Nat) (MS : Nat → Nat → Int32) (JS : Nat → Nat → Int64) (mk : Nat → Option Nat) (ad : Nat → Nat) (M : Nat → Nat → Int32) (ns s_ : Nat) (hns : MX 4 0 = nI ns) (hn3 : ns ≤ 3) (hs : s_ < ns) (ha : sv s_ = some (as_ 100)) : Cr l D cA yX4_same cX4_same 5 (some .int) 2 ([.ref (ax 100), .int (nI s_), .int (nI s_)] : List Value) ((wX cA ax lo la ot MX sv) ++ (wS cA as_ (ad 100) L MS JS mk) ++ (wF cA ad M)) (fun r : Option Value => ∃ x, r = some (.int x) ∧ (x = 1 ∨ x = 0) ∧ (x = 1 ↔ M 0 0 = M 0 0 ∧ lkS MS MS 16)) := by
  refine x_met (by decide +kernel) rfl (Nat.le_of_ble_eq_true rfl) ?_
  intro xp xe xs xm xbl xme xco F hnm
  refine x_lv [(0, .ref (ax 100)), (1, .int (nI s_)), (2, .int (nI s_))] [0, 1, 2] rfl ?_
  refine x_aload_n F 0 dX4_same_0 rfl ?_
  refine x_iload_n F 1 dX4_same_1 rfl ?_
  refine x_callVr F [] [0, 1] (c_X4_solveOf1 l D cA ax lo la ot MX sv ns s_ (as_ 100) hns hn3 hs ha) mwX4_solveOf wmX4_68 rfl (q0 := 0) rfl rfl rfl (Nat.le_of_ble_eq_true rfl) ⟨by decide, by decide⟩ ⟨by show _ ≤ 0; omega, by show _ ≤ 0; omega⟩ rfl (by decide) dX4_same_2 (fun r1 hp2 => ?_)
  subst hp2
  refine x_astore_n F [(3, .ref (as_ 100)), (0, .ref (ax 100)), (1, .int (nI s_)), (2, .int (nI s_))] dX4_same_5 (by decide) rfl ?_
  refine x_aload_n F 1 dX4_same_6 rfl ?_
  refine x_iload_n F 3 dX4_same_7 rfl ?_
  refine x_callVr F [] [0, 1] (c_X4_solveOf1 l D cA ax lo la ot MX sv ns s_ (as_ 100) hns hn3 hs ha) mwX4_solveOf wmX4_68 rfl (q0 := 0) rfl rfl rfl (Nat.le_of_ble_eq_true rfl) ⟨by decide, by decide⟩ ⟨by show _ ≤ 0; omega, by show _ ≤ 0; omega⟩ rfl (by decide) dX4_same_8 (fun r3 hp4 => ?_)
  subst hp4
  refine x_astore F [(4, .ref (as_ 100)), (3, .ref (as_ 100)), (0, .ref (ax 100)), (1, .int (nI s_)), (2, .int (nI s_))] dX4_same_11 (by decide) rfl ?_
  refine x_aload_n F 1 dX4_same_13 rfl ?_
  refine x_ifnull_r F dX4_same_14 ?_
  refine x_aload F 0 dX4_same_17 rfl ?_
  refine x_ifnonnull_r F 25 dX4_same_19 (by decide) ?_
  refine x_aload_n F 1 dX4_same_25 rfl ?_
  refine x_aload F 0 dX4_same_26 rfl ?_
  refine x_callVr F [] [2, 3, 4, 5, 6, 7, 8, 9, 10, 11, 12, 13, 14, 15, 16, 17] (c_X3_isLike1 l D cA as_ L MS JS mk ad M) mwX3_isLike wmX4_137 rfl (q0 := 0) rfl rfl rfl (Nat.le_of_ble_eq_true rfl) ⟨by decide, by decide⟩ ⟨by show _ ≤ 0; omega, by show _ ≤ 0; omega⟩ rfl (by decide) dX4_same_28 (fun r5 hp6 => ?_)
  obtain ⟨xq, rfl, hx01, hxi⟩ := hp6
  refine x_if_eq F 38 dX4_same_31 (by decide) (fun h31 => ?_) (fun h31 => ?_)
  · refine x_iconst F (nI 0) dX4_same_38 (by decide +kernel) ?_
    exact x_iret F () (⟨_, rfl, Or.inr rfl, fun z => absurd z (by decide +kernel), fun z => by rw [hxi.mpr z] at h31; exact absurd h31 (by decide +kernel)⟩) (rfl) (by omega) (by omega) dX4_same_39
  · refine x_iconst F (nI 1) dX4_same_34 (by decide +kernel) ?_
    refine x_goto F 39 dX4_same_35 (by decide) ?_
    exact x_iret F () (⟨_, rfl, Or.inl rfl, fun _ => hxi.mp (hx01.resolve_right h31), fun _ => rfl⟩) (rfl) (by omega) (by omega) dX4_same_39

set_option maxHeartbeats 4000000 in
set_option maxRecDepth 100000 in
theorem c_X4_same_b1 (l : Launch) (D : va_G) (cA : Nat → ClassId) (ax : Nat → Nat) (lo la ot : Nat) (MX : Nat → Nat → Int32) (sv : Nat → Option Nat) (ns s_ : Nat) (as_ : Nat → Nat) (p2 : Int32) (hns : MX 4 0 = nI ns) (hn3 : ns ≤ 3) (hs : s_ < ns) (ha : sv s_ = some (as_ 100)) (hb : ¬ (nI 0 ≤ p2 ∧ p2 ≤ MX 4 0 - nI 1)) : Cr l D cA yX4_same cX4_same 5 (some .int) 2 ([.ref (ax 100), .int (nI s_), .int p2] : List Value) (wX cA ax lo la ot MX sv) (fun r : Option Value => r = some (.int (-2))) := by
  refine x_met (by decide +kernel) rfl (Nat.le_of_ble_eq_true rfl) ?_
  intro xp xe xs xm xbl xme xco F hnm
  refine x_lv [(0, .ref (ax 100)), (1, .int (nI s_)), (2, .int p2)] [0, 1, 2] rfl ?_
  refine x_aload_n F 0 dX4_same_0 rfl ?_
  refine x_iload_n F 1 dX4_same_1 rfl ?_
  refine x_callVr F [] [0, 1] (c_X4_solveOf1 l D cA ax lo la ot MX sv ns s_ (as_ 100) hns hn3 hs ha) mwX4_solveOf wmX4_68 rfl (q0 := 0) rfl rfl rfl (Nat.le_of_ble_eq_true rfl) ⟨by decide, by decide⟩ ⟨by show _ ≤ 0; omega, by show _ ≤ 0; omega⟩ rfl (by decide) dX4_same_2 (fun r1 hp2 => ?_)
  subst hp2
  refine x_astore_n F [(3, .ref (as_ 100)), (0, .ref (ax 100)), (1, .int (nI s_)), (2, .int p2)] dX4_same_5 (by decide) rfl ?_
  refine x_aload_n F 1 dX4_same_6 rfl ?_
  refine x_iload_n F 3 dX4_same_7 rfl ?_
  refine x_callVr F [] [0, 1] (c_X4_solveOf0 l D cA ax lo la ot MX sv p2 hb) mwX4_solveOf wmX4_68 rfl (q0 := 0) rfl rfl rfl (Nat.le_of_ble_eq_true rfl) ⟨by decide, by decide⟩ ⟨by show _ ≤ 0; omega, by show _ ≤ 0; omega⟩ rfl (by decide) dX4_same_8 (fun r3 hp4 => ?_)
  subst hp4
  refine x_astoreN F [(4, .null), (3, .ref (as_ 100)), (0, .ref (ax 100)), (1, .int (nI s_)), (2, .int p2)] dX4_same_11 (by decide) rfl ?_
  refine x_aload_n F 1 dX4_same_13 rfl ?_
  refine x_ifnull_r F dX4_same_14 ?_
  refine x_aloadN F 0 dX4_same_17 rfl ?_
  refine x_ifnonnull_n F dX4_same_19 ?_
  refine x_bipush F (-2) dX4_same_22 (by decide +kernel) ?_
  exact x_iret F () (rfl) (rfl) (by omega) (by omega) dX4_same_24

set_option maxHeartbeats 4000000 in
set_option maxRecDepth 100000 in
theorem c_X4_same_b0 (l : Launch) (D : va_G) (cA : Nat → ClassId) (ax : Nat → Nat) (lo la ot : Nat) (MX : Nat → Nat → Int32) (sv : Nat → Option Nat) (ns v_ : Nat) (as_ : Nat → Nat) (p1 : Int32) (hns : MX 4 0 = nI ns) (hn3 : ns ≤ 3) (hs : v_ < ns) (ha : sv v_ = some (as_ 100)) (hb : ¬ (nI 0 ≤ p1 ∧ p1 ≤ MX 4 0 - nI 1)) : Cr l D cA yX4_same cX4_same 5 (some .int) 2 ([.ref (ax 100), .int p1, .int (nI v_)] : List Value) (wX cA ax lo la ot MX sv) (fun r : Option Value => r = some (.int (-2))) := by
  refine x_met (by decide +kernel) rfl (Nat.le_of_ble_eq_true rfl) ?_
  intro xp xe xs xm xbl xme xco F hnm
  refine x_lv [(0, .ref (ax 100)), (1, .int p1), (2, .int (nI v_))] [0, 1, 2] rfl ?_
  refine x_aload_n F 0 dX4_same_0 rfl ?_
  refine x_iload_n F 1 dX4_same_1 rfl ?_
  refine x_callVr F [] [0, 1] (c_X4_solveOf0 l D cA ax lo la ot MX sv p1 hb) mwX4_solveOf wmX4_68 rfl (q0 := 0) rfl rfl rfl (Nat.le_of_ble_eq_true rfl) ⟨by decide, by decide⟩ ⟨by show _ ≤ 0; omega, by show _ ≤ 0; omega⟩ rfl (by decide) dX4_same_2 (fun r1 hp2 => ?_)
  subst hp2
  refine x_astore_nN F [(3, .null), (0, .ref (ax 100)), (1, .int p1), (2, .int (nI v_))] dX4_same_5 (by decide) rfl ?_
  refine x_aload_n F 1 dX4_same_6 rfl ?_
  refine x_iload_n F 3 dX4_same_7 rfl ?_
  refine x_callVr F [] [0, 1] (c_X4_solveOf1 l D cA ax lo la ot MX sv ns v_ (as_ 100) hns hn3 hs ha) mwX4_solveOf wmX4_68 rfl (q0 := 0) rfl rfl rfl (Nat.le_of_ble_eq_true rfl) ⟨by decide, by decide⟩ ⟨by show _ ≤ 0; omega, by show _ ≤ 0; omega⟩ rfl (by decide) dX4_same_8 (fun r3 hp4 => ?_)
  subst hp4
  refine x_astore F [(4, .ref (as_ 100)), (3, .null), (0, .ref (ax 100)), (1, .int p1), (2, .int (nI v_))] dX4_same_11 (by decide) rfl ?_
  refine x_aload_nN F 1 dX4_same_13 rfl ?_
  refine x_ifnull_n F 22 dX4_same_14 (by decide) ?_
  refine x_bipush F (-2) dX4_same_22 (by decide +kernel) ?_
  exact x_iret F () (rfl) (rfl) (by omega) (by omega) dX4_same_24

set_option maxHeartbeats 4000000 in
set_option maxRecDepth 100000 in
theorem c_X4_same_bb (l : Launch) (D : va_G) (cA : Nat → ClassId) (ax : Nat → Nat) (lo la ot : Nat) (MX : Nat → Nat → Int32) (sv : Nat → Option Nat) (p1 p2 : Int32) (hb : ¬ (nI 0 ≤ p1 ∧ p1 ≤ MX 4 0 - nI 1)) (hb2 : ¬ (nI 0 ≤ p2 ∧ p2 ≤ MX 4 0 - nI 1)) : Cr l D cA yX4_same cX4_same 5 (some .int) 2 ([.ref (ax 100), .int p1, .int p2] : List Value) (wX cA ax lo la ot MX sv) (fun r : Option Value => r = some (.int (-2))) := by
  refine x_met (by decide +kernel) rfl (Nat.le_of_ble_eq_true rfl) ?_
  intro xp xe xs xm xbl xme xco F hnm
  refine x_lv [(0, .ref (ax 100)), (1, .int p1), (2, .int p2)] [0, 1, 2] rfl ?_
  refine x_aload_n F 0 dX4_same_0 rfl ?_
  refine x_iload_n F 1 dX4_same_1 rfl ?_
  refine x_callVr F [] [0, 1] (c_X4_solveOf0 l D cA ax lo la ot MX sv p1 hb) mwX4_solveOf wmX4_68 rfl (q0 := 0) rfl rfl rfl (Nat.le_of_ble_eq_true rfl) ⟨by decide, by decide⟩ ⟨by show _ ≤ 0; omega, by show _ ≤ 0; omega⟩ rfl (by decide) dX4_same_2 (fun r1 hp2 => ?_)
  subst hp2
  refine x_astore_nN F [(3, .null), (0, .ref (ax 100)), (1, .int p1), (2, .int p2)] dX4_same_5 (by decide) rfl ?_
  refine x_aload_n F 1 dX4_same_6 rfl ?_
  refine x_iload_n F 3 dX4_same_7 rfl ?_
  refine x_callVr F [] [0, 1] (c_X4_solveOf0 l D cA ax lo la ot MX sv p2 hb2) mwX4_solveOf wmX4_68 rfl (q0 := 0) rfl rfl rfl (Nat.le_of_ble_eq_true rfl) ⟨by decide, by decide⟩ ⟨by show _ ≤ 0; omega, by show _ ≤ 0; omega⟩ rfl (by decide) dX4_same_8 (fun r3 hp4 => ?_)
  subst hp4
  refine x_astoreN F [(4, .null), (3, .null), (0, .ref (ax 100)), (1, .int p1), (2, .int p2)] dX4_same_11 (by decide) rfl ?_
  refine x_aload_nN F 1 dX4_same_13 rfl ?_
  refine x_ifnull_n F 22 dX4_same_14 (by decide) ?_
  refine x_bipush F (-2) dX4_same_22 (by decide +kernel) ?_
  exact x_iret F () (rfl) (rfl) (by omega) (by omega) dX4_same_24

