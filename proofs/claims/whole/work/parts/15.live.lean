/-! the class itself: changes -/
set_option maxHeartbeats 4000000 in
set_option maxRecDepth 100000 in
theorem c_X4_enter (l : Launch) (D : va_G) (cA : Nat → ClassId) (ax : Nat → Nat) (ot : Nat) (MX : Nat → Nat → Int32) (sv : Nat → Option Nat) (al : Nat → Nat) (ML : Nat → Nat → Int32) (ad : Nat → Nat) (M : Nat → Nat → Int32) (n : Nat) (p1 p2 p3 p4 p5 : Int32) (hc : ML 5 0 = nI n) (hn : n ≤ 120) (hk : M 0 0 = nI n) (hwf : ∀ i, i < n → wfE ML i) (hw : wfV p1 p2 p3 p4 p5) : Cg l D cA yX4_enter cX4_enter 6 (some .int) 4 0 0 ([.ref (ax 100), .int p1, .int p2, .int p3, .int p4, .int p5] : List Value) ((wX cA ax (al 100) (ad 100) ot MX sv) ++ (wL cA al ML) ++ (wF cA ad M)) (fun (r : Option Value) (u : (Nat → Nat → Int32) × (Nat → Nat → Int32)) => ∃ x, r = some (.int x) ∧ EnQ n ML M p1 p2 p3 p4 p5 x u) (fun u : (Nat → Nat → Int32) × (Nat → Nat → Int32) => (wX cA ax (al 100) (ad 100) ot MX sv) ++ (wL cA al u.1) ++ (wF cA ad u.2)) := by
  refine x_met (by decide +kernel) rfl (Nat.le_of_ble_eq_true rfl) ?_
  intro xp xe xs xm xbl xme xco F hnm
  refine x_lv [(0, .ref (ax 100)), (1, .int p1), (2, .int p2), (3, .int p3), (4, .int p4), (5, .int p5)] [0, 1, 2, 3, 4, 5] rfl ?_
  refine x_aload_n F 0 dX4_enter_0 rfl ?_
  refine x_get F inUX4 0 0 rfl rfl (by decide) wfX4_10 rfl dX4_enter_1 ?_
  refine x_get F inUX1 2 5 rfl rfl (by decide) wfX4_72 rfl dX4_enter_4 ?_
  refine x_top (nI n) (hc) ?_
  refine x_bipush F (nI 120) dX4_enter_7 (by decide +kernel) ?_
  refine x_icmp_lt F 15 dX4_enter_9 (by decide) (fun h9 => ?_) (fun h9 => ?_)
  · have h9n : n < 120 := (nI_ltI (by omega) (by decide)).mp h9
    refine x_aload_n F 0 dX4_enter_15 rfl ?_
    refine x_get F inUX4 0 0 rfl rfl (by decide) wfX4_10 rfl dX4_enter_16 ?_
    refine x_iload_n F 1 dX4_enter_19 rfl ?_
    refine x_iload_n F 2 dX4_enter_20 rfl ?_
    refine x_iload_n F 3 dX4_enter_21 rfl ?_
    refine x_iload F 4 dX4_enter_22 rfl ?_
    refine x_iload F 5 dX4_enter_24 rfl ?_
    refine x_callV F [] ((wX cA ax (al 100) (ad 100) ot MX sv) ++ (wF cA ad M)) [2, 3, 4, 5, 6, 7] [0, 1, 8, 9, 10, 11, 12, 13, 14, 15, 16, 17] (c_X1_add l D cA al ML n p1 p2 p3 p4 p5 hc (by omega)) mwX1_add wmX4_171 rfl (q0 := 0) rfl rfl rfl (Nat.le_of_ble_eq_true rfl) ⟨by decide, by decide⟩ ⟨by show _ ≤ 0; omega, by show _ ≤ 0; omega⟩ rfl rfl (by decide) (by decide) (by decide) dX4_enter_26 (fun r1 u2 hp3 => ?_)
    obtain ⟨rfl, rfl⟩ := hp3
    refine x_sub ((wX cA ax (al 100) (ad 100) ot MX sv) ++ (wL cA al (addL ML n p1 p2 p3 p4 p5)) ++ (wF cA ad M)) [0, 1, 12, 13, 14, 15, 16, 17, 2, 3, 4, 5, 6, 7, 8, 9, 10, 11] rfl (by decide) ?_
    refine x_aload_n F 0 dX4_enter_29 rfl ?_
    refine x_get F inUX4 0 1 rfl rfl (by decide) wfX4_19 rfl dX4_enter_30 ?_
    refine x_aload_n F 0 dX4_enter_33 rfl ?_
    refine x_get F inUX4 0 0 rfl rfl (by decide) wfX4_10 rfl dX4_enter_34 ?_
    refine x_aload_n F 0 dX4_enter_37 rfl ?_
    refine x_get F inUX4 0 0 rfl rfl (by decide) wfX4_10 rfl dX4_enter_38 ?_
    refine x_get F inUX1 2 5 rfl rfl (by decide) wfX4_72 rfl dX4_enter_41 ?_
    refine x_top (nI (n + 1)) (rfl) ?_
    refine x_callV F [] (wX cA ax (al 100) (ad 100) ot MX sv) [8, 9, 10, 11, 12, 13, 14, 15, 16, 17, 2, 3, 4, 5, 6, 7] [0, 1] (c_X0_become l D cA ad M al (addL ML n p1 p2 p3 p4 p5) (n + 1) n (n + 1) rfl (by omega) (Nat.le_refl _) hk (by omega) (wfE_all hw hwf)) mwX0_become wmX4_129 rfl (q0 := 0) rfl rfl rfl (Nat.le_of_ble_eq_true rfl) ⟨by decide, by decide⟩ ⟨by show _ ≤ 0; omega, by show _ ≤ 0; omega⟩ rfl rfl (by decide) (by decide) (by decide) dX4_enter_44 (fun r4 u5 hp6 => ?_)
    obtain ⟨rfl, rfl⟩ := hp6
    refine x_sub ((wX cA ax (al 100) (ad 100) ot MX sv) ++ (wL cA al (addL ML n p1 p2 p3 p4 p5)) ++ (wF cA ad (becF (addL ML n p1 p2 p3 p4 p5) n (n + 1) M))) [0, 1, 12, 13, 14, 15, 16, 17, 2, 3, 4, 5, 6, 7, 8, 9, 10, 11] rfl (by decide) ?_
    rw [becF_1]
    refine x_aload_n F 0 dX4_enter_47 rfl ?_
    refine x_get F inUX4 0 0 rfl rfl (by decide) wfX4_10 rfl dX4_enter_48 ?_
    refine x_get F inUX1 2 5 rfl rfl (by decide) wfX4_72 rfl dX4_enter_51 ?_
    refine x_top (nI (n + 1)) (rfl) ?_
    exact x_iret F ((addL ML n p1 p2 p3 p4 p5), (st2 (stepF (addL ML n p1 p2 p3 p4 p5) n M) 0 0 (nI (n + 1)))) (⟨_, rfl, fun z => absurd z (by omega), fun _ => ⟨rfl, rfl⟩⟩) (rfl) (by omega) (by omega) dX4_enter_54
  · have h9n : ¬ n < 120 := fun z => h9 ((nI_ltI (by omega) (by decide)).mpr z)
    refine x_bipush F (-4) dX4_enter_12 (by decide +kernel) ?_
    exact x_iret F (ML, M) (⟨_, rfl, fun _ => ⟨rfl, rfl⟩, fun z => absurd z (by omega)⟩) (rfl) (by omega) (by omega) dX4_enter_14

set_option maxHeartbeats 4000000 in
set_option maxRecDepth 100000 in
theorem c_X4_go (l : Launch) (D : va_G) (cA : Nat → ClassId) (ax : Nat → Nat) (ot : Nat) (MX : Nat → Nat → Int32) (sv : Nat → Option Nat) (al : Nat → Nat) (ML : Nat → Nat → Int32) (ad : Nat → Nat) (M : Nat → Nat → Int32) (n : Nat) (p1 : Int32) (hc : ML 5 0 = nI n) (hn : n ≤ 120) (hk : M 0 0 = nI n) (hwf : ∀ i, i < n → wfE ML i) : Cg l D cA yX4_go cX4_go 2 (some .int) 5 0 0 ([.ref (ax 100), .int p1] : List Value) ((wX cA ax (al 100) (ad 100) ot MX sv) ++ (wL cA al ML) ++ (wF cA ad M)) (fun (r : Option Value) (u : (Nat → Nat → Int32) × (Nat → Nat → Int32)) => ∃ x, r = some (.int x) ∧ (¬ isJ M p1 → x = (-2) ∧ u = (ML, M)) ∧ (isJ M p1 → EnQ n ML M (nI 1) p1 (nI 0) (nI 0) (nI 0) x u)) (fun u : (Nat → Nat → Int32) × (Nat → Nat → Int32) => (wX cA ax (al 100) (ad 100) ot MX sv) ++ (wL cA al u.1) ++ (wF cA ad u.2)) := by
  refine x_met (by decide +kernel) rfl (Nat.le_of_ble_eq_true rfl) ?_
  intro xp xe xs xm xbl xme xco F hnm
  refine x_lv [(0, .ref (ax 100)), (1, .int p1)] [0, 1] rfl ?_
  refine x_aload_n F 0 dX4_go_0 rfl ?_
  refine x_get F inUX4 0 1 rfl rfl (by decide) wfX4_19 rfl dX4_go_1 ?_
  refine x_iload_n F 1 dX4_go_4 rfl ?_
  refine x_callVr F [] [8, 9, 10, 11, 12, 13, 14, 15, 16, 17] (c_X0_has l D cA ad M p1) mwX0_has wmX4_47 rfl (q0 := 0) rfl rfl rfl (Nat.le_of_ble_eq_true rfl) ⟨by decide, by decide⟩ ⟨by show _ ≤ 0; omega, by show _ ≤ 0; omega⟩ rfl (by decide) dX4_go_5 (fun r1 hp2 => ?_)
  subst hp2
  refine x_if_ne F 14 dX4_go_8 (by decide) (fun h8 => ?_) (fun h8 => ?_)
  · refine x_aload_n F 0 dX4_go_14 rfl ?_
    refine x_iconst F (nI 1) dX4_go_15 (by decide +kernel) ?_
    refine x_iload_n F 1 dX4_go_16 rfl ?_
    refine x_iconst F (nI 0) dX4_go_17 (by decide +kernel) ?_
    refine x_iconst F (nI 0) dX4_go_18 (by decide +kernel) ?_
    refine x_iconst F (nI 0) dX4_go_19 (by decide +kernel) ?_
    refine x_callV F [] ([]) [0, 1, 2, 3, 4, 5, 6, 7, 8, 9, 10, 11, 12, 13, 14, 15, 16, 17] [] (c_X4_enter l D cA ax ot MX sv al ML ad M n (nI 1) p1 (nI 0) (nI 0) (nI 0) hc hn hk hwf (by obtain ⟨j, hj, rfl, -⟩ := isJ_nat (bz_n0.mp h8); exact wf_go hj)) mwX4_enter wmX4_43 rfl (q0 := 0) rfl rfl rfl (Nat.le_of_ble_eq_true rfl) ⟨by decide, by decide⟩ ⟨by show _ ≤ 0; omega, by show _ ≤ 0; omega⟩ rfl rfl (by decide) (by decide) (by decide) dX4_go_20 (fun r3 u4 hp5 => ?_)
    obtain ⟨x4, rfl, hx⟩ := hp5
    exact x_iret F u4 (⟨_, rfl, fun z => absurd (bz_n0.mp h8) z, fun _ => hx⟩) (rfl) (by omega) (by omega) dX4_go_23
  · refine x_bipush F (-2) dX4_go_11 (by decide +kernel) ?_
    exact x_iret F (ML, M) (⟨_, rfl, fun _ => ⟨rfl, rfl⟩, fun z => absurd z (bz_0.mp h8)⟩) (rfl) (by omega) (by omega) dX4_go_13

abbrev trD (a b c : Int32) : Prop := (nI 1 ≤ a ∧ a ≤ nI 100) ∧ (nI 0 ≤ b ∧ b ≤ nI 50) ∧ (nI 0 ≤ c ∧ c ≤ nI 5)
set_option maxHeartbeats 4000000 in
set_option maxRecDepth 100000 in
theorem c_X4_turn (l : Launch) (D : va_G) (cA : Nat → ClassId) (ax : Nat → Nat) (ot : Nat) (MX : Nat → Nat → Int32) (sv : Nat → Option Nat) (al : Nat → Nat) (ML : Nat → Nat → Int32) (ad : Nat → Nat) (M : Nat → Nat → Int32) (n : Nat) (p1 p2 p3 p4 : Int32) (hc : ML 5 0 = nI n) (hn : n ≤ 120) (hk : M 0 0 = nI n) (hwf : ∀ i, i < n → wfE ML i) : Cg l D cA yX4_turn cX4_turn 5 (some .int) 5 0 0 ([.ref (ax 100), .int p1, .int p2, .int p3, .int p4] : List Value) ((wX cA ax (al 100) (ad 100) ot MX sv) ++ (wL cA al ML) ++ (wF cA ad M)) (fun (r : Option Value) (u : (Nat → Nat → Int32) × (Nat → Nat → Int32)) => ∃ x, r = some (.int x) ∧ (¬ (isJ M p1 ∧ trD p2 p3 p4) → x = (-2) ∧ u = (ML, M)) ∧ (isJ M p1 ∧ trD p2 p3 p4 → EnQ n ML M (nI 2) p1 p2 p3 p4 x u)) (fun u : (Nat → Nat → Int32) × (Nat → Nat → Int32) => (wX cA ax (al 100) (ad 100) ot MX sv) ++ (wL cA al u.1) ++ (wF cA ad u.2)) := by
  refine x_met (by decide +kernel) rfl (Nat.le_of_ble_eq_true rfl) ?_
  intro xp xe xs xm xbl xme xco F hnm
  refine x_lv [(0, .ref (ax 100)), (1, .int p1), (2, .int p2), (3, .int p3), (4, .int p4)] [0, 1, 2, 3, 4] rfl ?_
  refine x_aload_n F 0 dX4_turn_0 rfl ?_
  refine x_get F inUX4 0 1 rfl rfl (by decide) wfX4_19 rfl dX4_turn_1 ?_
  refine x_iload_n F 1 dX4_turn_4 rfl ?_
  refine x_callVr F [] [8, 9, 10, 11, 12, 13, 14, 15, 16, 17] (c_X0_has l D cA ad M p1) mwX0_has wmX4_47 rfl (q0 := 0) rfl rfl rfl (Nat.le_of_ble_eq_true rfl) ⟨by decide, by decide⟩ ⟨by show _ ≤ 0; omega, by show _ ≤ 0; omega⟩ rfl (by decide) dX4_turn_5 (fun r1 hp2 => ?_)
  subst hp2
  refine x_if_eq F 21 dX4_turn_8 (by decide) (fun h8 => ?_) (fun h8 => ?_)
  · refine x_bipush F (-2) dX4_turn_21 (by decide +kernel) ?_
    exact x_iret F (ML, M) (⟨_, rfl, fun _ => ⟨rfl, rfl⟩, fun z => (bz_0.mp h8 z.1).elim⟩) (rfl) (by omega) (by omega) dX4_turn_23
  · refine x_iload_n F 2 dX4_turn_11 rfl ?_
    refine x_iload_n F 3 dX4_turn_12 rfl ?_
    refine x_iload F 4 dX4_turn_13 rfl ?_
    refine x_callSr F [] [] (c_X4_areTraits l D cA p2 p3 p4) mwX4_areTraits wmX4_36 rfl rfl (Nat.le_of_ble_eq_true rfl) ⟨by decide, by decide⟩ ⟨by show _ ≤ 0; omega, by show _ ≤ 0; omega⟩ rfl (by decide) dX4_turn_15 (fun r3 hp4 => ?_)
    subst hp4
    refine x_if_ne F 24 dX4_turn_18 (by decide) (fun h18 => ?_) (fun h18 => ?_)
    · refine x_aload_n F 0 dX4_turn_24 rfl ?_
      refine x_iconst F (nI 2) dX4_turn_25 (by decide +kernel) ?_
      refine x_iload_n F 1 dX4_turn_26 rfl ?_
      refine x_iload_n F 2 dX4_turn_27 rfl ?_
      refine x_iload_n F 3 dX4_turn_28 rfl ?_
      refine x_iload F 4 dX4_turn_29 rfl ?_
      refine x_callV F [] ([]) [0, 1, 2, 3, 4, 5, 6, 7, 8, 9, 10, 11, 12, 13, 14, 15, 16, 17] [] (c_X4_enter l D cA ax ot MX sv al ML ad M n (nI 2) p1 p2 p3 p4 hc hn hk hwf (by obtain ⟨j, hj, rfl, -⟩ := isJ_nat (bz_n0.mp h8); exact wf_turn hj (show trD p2 p3 p4 from bz_n0.mp h18))) mwX4_enter wmX4_43 rfl (q0 := 0) rfl rfl rfl (Nat.le_of_ble_eq_true rfl) ⟨by decide, by decide⟩ ⟨by show _ ≤ 0; omega, by show _ ≤ 0; omega⟩ rfl rfl (by decide) (by decide) (by decide) dX4_turn_31 (fun r5 u6 hp7 => ?_)
      obtain ⟨x6, rfl, hx⟩ := hp7
      exact x_iret F u6 (⟨_, rfl, fun z => absurd ⟨bz_n0.mp h8, bz_n0.mp h18⟩ z, fun _ => hx⟩) (rfl) (by omega) (by omega) dX4_turn_34
    · refine x_bipush F (-2) dX4_turn_21 (by decide +kernel) ?_
      exact x_iret F (ML, M) (⟨_, rfl, fun _ => ⟨rfl, rfl⟩, fun z => (bz_0.mp h18 z.2).elim⟩) (rfl) (by omega) (by omega) dX4_turn_23

set_option maxHeartbeats 4000000 in
set_option maxRecDepth 100000 in
theorem c_X4_size (l : Launch) (D : va_G) (cA : Nat → ClassId) (ax : Nat → Nat) (ot : Nat) (MX : Nat → Nat → Int32) (sv : Nat → Option Nat) (al : Nat → Nat) (ML : Nat → Nat → Int32) (ad : Nat → Nat) (M : Nat → Nat → Int32) (n : Nat) (p1 p2 : Int32) (hc : ML 5 0 = nI n) (hn : n ≤ 120) (hk : M 0 0 = nI n) (hwf : ∀ i, i < n → wfE ML i) : Cg l D cA yX4_size cX4_size 3 (some .int) 5 0 0 ([.ref (ax 100), .int p1, .int p2] : List Value) ((wX cA ax (al 100) (ad 100) ot MX sv) ++ (wL cA al ML) ++ (wF cA ad M)) (fun (r : Option Value) (u : (Nat → Nat → Int32) × (Nat → Nat → Int32)) => ∃ x, r = some (.int x) ∧ (¬ ((nI 0 ≤ p1 ∧ p1 ≤ nI 5) ∧ nI 0 ≤ p2 ∧ p2 ≤ nI 400) → x = (-2) ∧ u = (ML, M)) ∧ ((nI 0 ≤ p1 ∧ p1 ≤ nI 5) ∧ nI 0 ≤ p2 ∧ p2 ≤ nI 400 → EnQ n ML M (nI 3) p1 p2 (nI 0) (nI 0) x u)) (fun u : (Nat → Nat → Int32) × (Nat → Nat → Int32) => (wX cA ax (al 100) (ad 100) ot MX sv) ++ (wL cA al u.1) ++ (wF cA ad u.2)) := by
  refine x_met (by decide +kernel) rfl (Nat.le_of_ble_eq_true rfl) ?_
  intro xp xe xs xm xbl xme xco F hnm
  refine x_lv [(0, .ref (ax 100)), (1, .int p1), (2, .int p2)] [0, 1, 2] rfl ?_
  refine x_iload_n F 1 dX4_size_0 rfl ?_
  refine x_callSr F [] [] (c_X4_isRoom l D cA p1) mwX4_isRoom wmX4_51 rfl rfl (Nat.le_of_ble_eq_true rfl) ⟨by decide, by decide⟩ ⟨by show _ ≤ 0; omega, by show _ ≤ 0; omega⟩ rfl (by decide) dX4_size_1 (fun r1 hp2 => ?_)
  subst hp2
  refine x_if_eq F 18 dX4_size_4 (by decide) (fun h4 => ?_) (fun h4 => ?_)
  · refine x_bipush F (-2) dX4_size_18 (by decide +kernel) ?_
    exact x_iret F (ML, M) (⟨_, rfl, fun _ => ⟨rfl, rfl⟩, fun z => (bz_0.mp h4 z.1).elim⟩) (rfl) (by omega) (by omega) dX4_size_20
  · refine x_iload_n F 2 dX4_size_7 rfl ?_
    refine x_iconst F (nI 0) dX4_size_8 (by decide +kernel) ?_
    refine x_sipush F (nI 400) dX4_size_9 (by decide +kernel) ?_
    refine x_callSr F [] [] (c_X4_isWithin l D cA p2 (nI 0) (nI 400)) mwX4_isWithin wmX4_54 rfl rfl (Nat.le_of_ble_eq_true rfl) ⟨by decide, by decide⟩ ⟨by show _ ≤ 0; omega, by show _ ≤ 0; omega⟩ rfl (by decide) dX4_size_12 (fun r3 hp4 => ?_)
    subst hp4
    refine x_if_ne F 21 dX4_size_15 (by decide) (fun h15 => ?_) (fun h15 => ?_)
    · refine x_aload_n F 0 dX4_size_21 rfl ?_
      refine x_iconst F (nI 3) dX4_size_22 (by decide +kernel) ?_
      refine x_iload_n F 1 dX4_size_23 rfl ?_
      refine x_iload_n F 2 dX4_size_24 rfl ?_
      refine x_iconst F (nI 0) dX4_size_25 (by decide +kernel) ?_
      refine x_iconst F (nI 0) dX4_size_26 (by decide +kernel) ?_
      refine x_callV F [] ([]) [0, 1, 2, 3, 4, 5, 6, 7, 8, 9, 10, 11, 12, 13, 14, 15, 16, 17] [] (c_X4_enter l D cA ax ot MX sv al ML ad M n (nI 3) p1 p2 (nI 0) (nI 0) hc hn hk hwf (by obtain ⟨j, hj, rfl⟩ := wn (n := 5) (by decide) (bz_n0.mp h4); exact wf_size (by omega) (bz_n0.mp h15))) mwX4_enter wmX4_43 rfl (q0 := 0) rfl rfl rfl (Nat.le_of_ble_eq_true rfl) ⟨by decide, by decide⟩ ⟨by show _ ≤ 0; omega, by show _ ≤ 0; omega⟩ rfl rfl (by decide) (by decide) (by decide) dX4_size_27 (fun r5 u6 hp7 => ?_)
      obtain ⟨x6, rfl, hx⟩ := hp7
      exact x_iret F u6 (⟨_, rfl, fun z => absurd ⟨bz_n0.mp h4, bz_n0.mp h15⟩ z, fun _ => hx⟩) (rfl) (by omega) (by omega) dX4_size_30
    · refine x_bipush F (-2) dX4_size_18 (by decide +kernel) ?_
      exact x_iret F (ML, M) (⟨_, rfl, fun _ => ⟨rfl, rfl⟩, fun z => (bz_0.mp h15 z.2).elim⟩) (rfl) (by omega) (by omega) dX4_size_20

theorem lock_ok {x : Int32} (h : x = (-1) ∨ nI 0 ≤ x ∧ x ≤ nI 5) : nI 0 ≤ x + 1 ∧ x + 1 ≤ nI 6 := by
  rcases h with rfl | h
  · decide +kernel
  · obtain ⟨j, hj, rfl⟩ := wn (n := 5) (by decide) h
    rw [nI_1]; exact wn_in (n := 6) (by omega) (by decide)
set_option maxHeartbeats 4000000 in
set_option maxRecDepth 100000 in
theorem c_X4_lock (l : Launch) (D : va_G) (cA : Nat → ClassId) (ax : Nat → Nat) (ot : Nat) (MX : Nat → Nat → Int32) (sv : Nat → Option Nat) (al : Nat → Nat) (ML : Nat → Nat → Int32) (ad : Nat → Nat) (M : Nat → Nat → Int32) (n : Nat) (p1 p2 : Int32) (hc : ML 5 0 = nI n) (hn : n ≤ 120) (hk : M 0 0 = nI n) (hwf : ∀ i, i < n → wfE ML i) : Cg l D cA yX4_lock cX4_lock 3 (some .int) 5 0 0 ([.ref (ax 100), .int p1, .int p2] : List Value) ((wX cA ax (al 100) (ad 100) ot MX sv) ++ (wL cA al ML) ++ (wF cA ad M)) (fun (r : Option Value) (u : (Nat → Nat → Int32) × (Nat → Nat → Int32)) => ∃ x, r = some (.int x) ∧ (¬ (isJ M p1 ∧ (p2 = (-1) ∨ nI 0 ≤ p2 ∧ p2 ≤ nI 5)) → x = (-2) ∧ u = (ML, M)) ∧ (isJ M p1 ∧ (p2 = (-1) ∨ nI 0 ≤ p2 ∧ p2 ≤ nI 5) → EnQ n ML M (nI 6) p1 p2 (nI 0) (nI 0) x u)) (fun u : (Nat → Nat → Int32) × (Nat → Nat → Int32) => (wX cA ax (al 100) (ad 100) ot MX sv) ++ (wL cA al u.1) ++ (wF cA ad u.2)) := by
  refine x_met (by decide +kernel) rfl (Nat.le_of_ble_eq_true rfl) ?_
  intro xp xe xs xm xbl xme xco F hnm
  refine x_lv [(0, .ref (ax 100)), (1, .int p1), (2, .int p2)] [0, 1, 2] rfl ?_
  refine x_aload_n F 0 dX4_lock_0 rfl ?_
  refine x_get F inUX4 0 1 rfl rfl (by decide) wfX4_19 rfl dX4_lock_1 ?_
  refine x_iload_n F 1 dX4_lock_4 rfl ?_
  refine x_callVr F [] [8, 9, 10, 11, 12, 13, 14, 15, 16, 17] (c_X0_has l D cA ad M p1) mwX0_has wmX4_47 rfl (q0 := 0) rfl rfl rfl (Nat.le_of_ble_eq_true rfl) ⟨by decide, by decide⟩ ⟨by show _ ≤ 0; omega, by show _ ≤ 0; omega⟩ rfl (by decide) dX4_lock_5 (fun r1 hp2 => ?_)
  subst hp2
  refine x_if_eq F 23 dX4_lock_8 (by decide) (fun h8 => ?_) (fun h8 => ?_)
  · refine x_bipush F (-2) dX4_lock_23 (by decide +kernel) ?_
    exact x_iret F (ML, M) (⟨_, rfl, fun _ => ⟨rfl, rfl⟩, fun z => (bz_0.mp h8 z.1).elim⟩) (rfl) (by omega) (by omega) dX4_lock_25
  · refine x_iload_n F 2 dX4_lock_11 rfl ?_
    refine x_iconst F (-1) dX4_lock_12 (by decide +kernel) ?_
    refine x_icmp_eq F 26 dX4_lock_13 (by decide) (fun h13 => ?_) (fun h13 => ?_)
    · refine x_aload_n F 0 dX4_lock_26 rfl ?_
      refine x_bipush F (nI 6) dX4_lock_27 (by decide +kernel) ?_
      refine x_iload_n F 1 dX4_lock_29 rfl ?_
      refine x_iload_n F 2 dX4_lock_30 rfl ?_
      refine x_iconst F (nI 0) dX4_lock_31 (by decide +kernel) ?_
      refine x_iconst F (nI 0) dX4_lock_32 (by decide +kernel) ?_
      refine x_callV F [] ([]) [0, 1, 2, 3, 4, 5, 6, 7, 8, 9, 10, 11, 12, 13, 14, 15, 16, 17] [] (c_X4_enter l D cA ax ot MX sv al ML ad M n (nI 6) p1 p2 (nI 0) (nI 0) hc hn hk hwf (by obtain ⟨j, hj, ej, -⟩ := isJ_nat (bz_n0.mp h8); rw [ej]; exact wf_lock hj (lock_ok (Or.inl h13)))) mwX4_enter wmX4_43 rfl (q0 := 0) rfl rfl rfl (Nat.le_of_ble_eq_true rfl) ⟨by decide, by decide⟩ ⟨by show _ ≤ 0; omega, by show _ ≤ 0; omega⟩ rfl rfl (by decide) (by decide) (by decide) dX4_lock_33 (fun r3 u4 hp5 => ?_)
      obtain ⟨x4, rfl, hx⟩ := hp5
      exact x_iret F u4 (⟨_, rfl, fun z => absurd ⟨bz_n0.mp h8, Or.inl h13⟩ z, fun _ => hx⟩) (rfl) (by omega) (by omega) dX4_lock_36
    · refine x_iload_n F 2 dX4_lock_16 rfl ?_
      refine x_callSr F [] [] (c_X4_isRoom l D cA p2) mwX4_isRoom wmX4_51 rfl rfl (Nat.le_of_ble_eq_true rfl) ⟨by decide, by decide⟩ ⟨by show _ ≤ 0; omega, by show _ ≤ 0; omega⟩ rfl (by decide) dX4_lock_17 (fun r6 hp7 => ?_)
      subst hp7
      refine x_if_ne F 26 dX4_lock_20 (by decide) (fun h20 => ?_) (fun h20 => ?_)
      · refine x_aload_n F 0 dX4_lock_26 rfl ?_
        refine x_bipush F (nI 6) dX4_lock_27 (by decide +kernel) ?_
        refine x_iload_n F 1 dX4_lock_29 rfl ?_
        refine x_iload_n F 2 dX4_lock_30 rfl ?_
        refine x_iconst F (nI 0) dX4_lock_31 (by decide +kernel) ?_
        refine x_iconst F (nI 0) dX4_lock_32 (by decide +kernel) ?_
        refine x_callV F [] ([]) [0, 1, 2, 3, 4, 5, 6, 7, 8, 9, 10, 11, 12, 13, 14, 15, 16, 17] [] (c_X4_enter l D cA ax ot MX sv al ML ad M n (nI 6) p1 p2 (nI 0) (nI 0) hc hn hk hwf (by obtain ⟨j, hj, ej, -⟩ := isJ_nat (bz_n0.mp h8); rw [ej]; exact wf_lock hj (lock_ok (Or.inr (bz_n0.mp h20))))) mwX4_enter wmX4_43 rfl (q0 := 0) rfl rfl rfl (Nat.le_of_ble_eq_true rfl) ⟨by decide, by decide⟩ ⟨by show _ ≤ 0; omega, by show _ ≤ 0; omega⟩ rfl rfl (by decide) (by decide) (by decide) dX4_lock_33 (fun r8 u9 hp10 => ?_)
        obtain ⟨x9, rfl, hx⟩ := hp10
        exact x_iret F u9 (⟨_, rfl, fun z => absurd ⟨bz_n0.mp h8, Or.inr (bz_n0.mp h20)⟩ z, fun _ => hx⟩) (rfl) (by omega) (by omega) dX4_lock_36
      · refine x_bipush F (-2) dX4_lock_23 (by decide +kernel) ?_
        exact x_iret F (ML, M) (⟨_, rfl, fun _ => ⟨rfl, rfl⟩, fun z => (z.2.elim h13 (bz_0.mp h20)).elim⟩) (rfl) (by omega) (by omega) dX4_lock_25

set_option maxHeartbeats 4000000 in
set_option maxRecDepth 100000 in
theorem c_X4_free (l : Launch) (D : va_G) (cA : Nat → ClassId) (ax : Nat → Nat) (ot : Nat) (MX : Nat → Nat → Int32) (sv : Nat → Option Nat) (al : Nat → Nat) (ML : Nat → Nat → Int32) (ad : Nat → Nat) (M : Nat → Nat → Int32) (n : Nat) (p1 : Int32) (hc : ML 5 0 = nI n) (hn : n ≤ 120) (hk : M 0 0 = nI n) (hwf : ∀ i, i < n → wfE ML i) : Cg l D cA yX4_free cX4_free 2 (some .int) 5 0 0 ([.ref (ax 100), .int p1] : List Value) ((wX cA ax (al 100) (ad 100) ot MX sv) ++ (wL cA al ML) ++ (wF cA ad M)) (fun (r : Option Value) (u : (Nat → Nat → Int32) × (Nat → Nat → Int32)) => ∃ x, r = some (.int x) ∧ (¬ isJ M p1 → x = (-2) ∧ u = (ML, M)) ∧ (isJ M p1 → (M 6 p1.toNatClampNeg = (-2) → x = (-3) ∧ u = (ML, M)) ∧ (¬ M 6 p1.toNatClampNeg = (-2) → EnQ n ML M (nI 7) p1 (nI 0) (nI 0) (nI 0) x u))) (fun u : (Nat → Nat → Int32) × (Nat → Nat → Int32) => (wX cA ax (al 100) (ad 100) ot MX sv) ++ (wL cA al u.1) ++ (wF cA ad u.2)) := by
  refine x_met (by decide +kernel) rfl (Nat.le_of_ble_eq_true rfl) ?_
  intro xp xe xs xm xbl xme xco F hnm
  refine x_lv [(0, .ref (ax 100)), (1, .int p1)] [0, 1] rfl ?_
  refine x_aload_n F 0 dX4_free_0 rfl ?_
  refine x_get F inUX4 0 1 rfl rfl (by decide) wfX4_19 rfl dX4_free_1 ?_
  refine x_iload_n F 1 dX4_free_4 rfl ?_
  refine x_callVr F [] [8, 9, 10, 11, 12, 13, 14, 15, 16, 17] (c_X0_has l D cA ad M p1) mwX0_has wmX4_47 rfl (q0 := 0) rfl rfl rfl (Nat.le_of_ble_eq_true rfl) ⟨by decide, by decide⟩ ⟨by show _ ≤ 0; omega, by show _ ≤ 0; omega⟩ rfl (by decide) dX4_free_5 (fun r1 hp2 => ?_)
  subst hp2
  refine x_if_ne F 14 dX4_free_8 (by decide) (fun h8 => ?_) (fun h8 => ?_)
  · have hJ := bz_n0.mp h8
    obtain ⟨j, hj, rfl⟩ := wn (n := 15) (by decide) hJ.1
    have ejc : (nI j).toNatClampNeg = j := nI_clamp (by omega)
    refine x_aload_n F 0 dX4_free_14 rfl ?_
    refine x_get F inUX4 0 1 rfl rfl (by decide) wfX4_19 rfl dX4_free_15 ?_
    refine x_get F inUX0 8 6 rfl rfl (by decide) wfX4_61 rfl dX4_free_18 ?_
    refine x_iload_n F 1 dX4_free_21 rfl ?_
    refine x_iald F 13 (k := j) rfl (by omega) (by decide) dX4_free_22 ?_
    refine x_bipush F (-2) dX4_free_23 (by decide +kernel) ?_
    refine x_icmp_ne F 31 dX4_free_25 (by decide) (fun h25 => ?_) (fun h25 => ?_)
    · refine x_aload_n F 0 dX4_free_31 rfl ?_
      refine x_bipush F (nI 7) dX4_free_32 (by decide +kernel) ?_
      refine x_iload_n F 1 dX4_free_34 rfl ?_
      refine x_iconst F (nI 0) dX4_free_35 (by decide +kernel) ?_
      refine x_iconst F (nI 0) dX4_free_36 (by decide +kernel) ?_
      refine x_iconst F (nI 0) dX4_free_37 (by decide +kernel) ?_
      refine x_callV F [] ([]) [0, 1, 2, 3, 4, 5, 6, 7, 8, 9, 10, 11, 12, 13, 14, 15, 16, 17] [] (c_X4_enter l D cA ax ot MX sv al ML ad M n (nI 7) (nI j) (nI 0) (nI 0) (nI 0) hc hn hk hwf (wf_free (by omega))) mwX4_enter wmX4_43 rfl (q0 := 0) rfl rfl rfl (Nat.le_of_ble_eq_true rfl) ⟨by decide, by decide⟩ ⟨by show _ ≤ 0; omega, by show _ ≤ 0; omega⟩ rfl rfl (by decide) (by decide) (by decide) dX4_free_38 (fun r3 u4 hp5 => ?_)
      obtain ⟨x4, rfl, hx⟩ := hp5
      exact x_iret F u4 (⟨_, rfl, fun z => absurd hJ z, fun _ => ⟨fun z => absurd (by rw [ejc] at z; exact z) h25, fun _ => hx⟩⟩) (rfl) (by omega) (by omega) dX4_free_41
    · refine x_bipush F (-3) dX4_free_28 (by decide +kernel) ?_
      exact x_iret F (ML, M) (⟨_, rfl, fun z => absurd hJ z, fun _ => ⟨fun _ => ⟨rfl, rfl⟩, fun z => absurd (by rw [ejc]; exact h25) z⟩⟩) (rfl) (by omega) (by omega) dX4_free_30
  · refine x_bipush F (-2) dX4_free_11 (by decide +kernel) ?_
    exact x_iret F (ML, M) (⟨_, rfl, fun _ => ⟨rfl, rfl⟩, fun z => absurd z (bz_0.mp h8)⟩) (rfl) (by omega) (by omega) dX4_free_13

set_option maxHeartbeats 4000000 in
set_option maxRecDepth 100000 in
theorem c_X4_apart (l : Launch) (D : va_G) (cA : Nat → ClassId) (ax : Nat → Nat) (ot : Nat) (MX : Nat → Nat → Int32) (sv : Nat → Option Nat) (al : Nat → Nat) (ML : Nat → Nat → Int32) (ad : Nat → Nat) (M : Nat → Nat → Int32) (n : Nat) (p1 p2 p3 : Int32) (hc : ML 5 0 = nI n) (hn : n ≤ 120) (hk : M 0 0 = nI n) (hwf : ∀ i, i < n → wfE ML i) : Cg l D cA yX4_apart cX4_apart 4 (some .int) 5 0 0 ([.ref (ax 100), .int p1, .int p2, .int p3] : List Value) ((wX cA ax (al 100) (ad 100) ot MX sv) ++ (wL cA al ML) ++ (wF cA ad M)) (fun (r : Option Value) (u : (Nat → Nat → Int32) × (Nat → Nat → Int32)) => ∃ x, r = some (.int x) ∧ (¬ (isJ M p1 ∧ isJ M p2 ∧ ¬ p1 = p2) → x = (-2) ∧ u = (ML, M)) ∧ (isJ M p1 ∧ isJ M p2 ∧ ¬ p1 = p2 → (bz (M 7 p1.toNatClampNeg >>> (p2 &&& 31) &&& nI 1 = nI 1) = p3 → x = (-3) ∧ u = (ML, M)) ∧ (¬ bz (M 7 p1.toNatClampNeg >>> (p2 &&& 31) &&& nI 1 = nI 1) = p3 → EnQ n ML M (if p3 = 0 then nI 5 else nI 4) p1 p2 (nI 0) (nI 0) x u))) (fun u : (Nat → Nat → Int32) × (Nat → Nat → Int32) => (wX cA ax (al 100) (ad 100) ot MX sv) ++ (wL cA al u.1) ++ (wF cA ad u.2)) := by
  refine x_met (by decide +kernel) rfl (Nat.le_of_ble_eq_true rfl) ?_
  intro xp xe xs xm xbl xme xco F hnm
  refine x_lv [(0, .ref (ax 100)), (1, .int p1), (2, .int p2), (3, .int p3)] [0, 1, 2, 3] rfl ?_
  refine x_aload_n F 0 dX4_apart_0 rfl ?_
  refine x_get F inUX4 0 1 rfl rfl (by decide) wfX4_19 rfl dX4_apart_1 ?_
  refine x_iload_n F 1 dX4_apart_4 rfl ?_
  refine x_callVr F [] [8, 9, 10, 11, 12, 13, 14, 15, 16, 17] (c_X0_has l D cA ad M p1) mwX0_has wmX4_47 rfl (q0 := 0) rfl rfl rfl (Nat.le_of_ble_eq_true rfl) ⟨by decide, by decide⟩ ⟨by show _ ≤ 0; omega, by show _ ≤ 0; omega⟩ rfl (by decide) dX4_apart_5 (fun r1 hp2 => ?_)
  subst hp2
  refine x_if_eq F 27 dX4_apart_8 (by decide) (fun h8 => ?_) (fun h8 => ?_)
  · refine x_bipush F (-2) dX4_apart_27 (by decide +kernel) ?_
    exact x_iret F (ML, M) (⟨_, rfl, fun _ => ⟨rfl, rfl⟩, fun z => (bz_0.mp h8 z.1).elim⟩) (rfl) (by omega) (by omega) dX4_apart_29
  · refine x_aload_n F 0 dX4_apart_11 rfl ?_
    refine x_get F inUX4 0 1 rfl rfl (by decide) wfX4_19 rfl dX4_apart_12 ?_
    refine x_iload_n F 2 dX4_apart_15 rfl ?_
    refine x_callVr F [] [8, 9, 10, 11, 12, 13, 14, 15, 16, 17] (c_X0_has l D cA ad M p2) mwX0_has wmX4_47 rfl (q0 := 0) rfl rfl rfl (Nat.le_of_ble_eq_true rfl) ⟨by decide, by decide⟩ ⟨by show _ ≤ 0; omega, by show _ ≤ 0; omega⟩ rfl (by decide) dX4_apart_16 (fun r3 hp4 => ?_)
    subst hp4
    refine x_if_eq F 27 dX4_apart_19 (by decide) (fun h19 => ?_) (fun h19 => ?_)
    · refine x_bipush F (-2) dX4_apart_27 (by decide +kernel) ?_
      exact x_iret F (ML, M) (⟨_, rfl, fun _ => ⟨rfl, rfl⟩, fun z => (bz_0.mp h19 z.2.1).elim⟩) (rfl) (by omega) (by omega) dX4_apart_29
    · refine x_iload_n F 1 dX4_apart_22 rfl ?_
      refine x_iload_n F 2 dX4_apart_23 rfl ?_
      refine x_icmp_ne F 30 dX4_apart_24 (by decide) (fun h24 => ?_) (fun h24 => ?_)
      · have hJ : isJ M p1 ∧ isJ M p2 ∧ ¬ p1 = p2 := ⟨bz_n0.mp h8, bz_n0.mp h19, h24⟩
        obtain ⟨j, hj, rfl⟩ := wn (n := 15) (by decide) hJ.1.1
        obtain ⟨k, hk2, rfl⟩ := wn (n := 15) (by decide) hJ.2.1.1
        have ejc : (nI j).toNatClampNeg = j := nI_clamp (by omega)
        refine x_aload_n F 0 dX4_apart_30 rfl ?_
        refine x_get F inUX4 0 1 rfl rfl (by decide) wfX4_19 rfl dX4_apart_31 ?_
        refine x_iload_n F 1 dX4_apart_34 rfl ?_
        refine x_iload_n F 2 dX4_apart_35 rfl ?_
        refine x_callVr F [] [8, 9, 10, 11, 12, 13, 14, 15, 16, 17] (c_X0_areApart l D cA ad M j k (by omega)) mwX0_areApart wmX4_57 rfl (q0 := 0) rfl rfl rfl (Nat.le_of_ble_eq_true rfl) ⟨by decide, by decide⟩ ⟨by show _ ≤ 0; omega, by show _ ≤ 0; omega⟩ rfl (by decide) dX4_apart_36 (fun r5 hp6 => ?_)
        subst hp6
        refine x_iload_n F 3 dX4_apart_39 rfl ?_
        refine x_icmp_ne F 46 dX4_apart_40 (by decide) (fun h40 => ?_) (fun h40 => ?_)
        · refine x_aload_n F 0 dX4_apart_46 rfl ?_
          refine x_iload_n F 3 dX4_apart_47 rfl ?_
          refine x_if_eq F 55 dX4_apart_48 (by decide) (fun h48 => ?_) (fun h48 => ?_)
          · refine x_iconst F (nI 5) dX4_apart_55 (by decide +kernel) ?_
            refine x_iload_n F 1 dX4_apart_56 rfl ?_
            refine x_iload_n F 2 dX4_apart_57 rfl ?_
            refine x_iconst F (nI 0) dX4_apart_58 (by decide +kernel) ?_
            refine x_iconst F (nI 0) dX4_apart_59 (by decide +kernel) ?_
            refine x_callV F [] ([]) [0, 1, 2, 3, 4, 5, 6, 7, 8, 9, 10, 11, 12, 13, 14, 15, 16, 17] [] (c_X4_enter l D cA ax ot MX sv al ML ad M n (nI 5) (nI j) (nI k) (nI 0) (nI 0) hc hn hk hwf (wf_near (by omega) (by omega))) mwX4_enter wmX4_43 rfl (q0 := 0) rfl rfl rfl (Nat.le_of_ble_eq_true rfl) ⟨by decide, by decide⟩ ⟨by show _ ≤ 0; omega, by show _ ≤ 0; omega⟩ rfl rfl (by decide) (by decide) (by decide) dX4_apart_60 (fun r7 u8 hp9 => ?_)
            obtain ⟨x8, rfl, hx⟩ := hp9
            exact x_iret F u8 (⟨_, rfl, fun z => absurd hJ z, fun _ => ⟨fun z => absurd (by rw [ejc] at z; exact z) h40, fun _ => by rw [if_pos h48]; exact hx⟩⟩) (rfl) (by omega) (by omega) dX4_apart_63
          · refine x_iconst F (nI 4) dX4_apart_51 (by decide +kernel) ?_
            refine x_goto F 56 dX4_apart_52 (by decide) ?_
            refine x_iload_n F 1 dX4_apart_56 rfl ?_
            refine x_iload_n F 2 dX4_apart_57 rfl ?_
            refine x_iconst F (nI 0) dX4_apart_58 (by decide +kernel) ?_
            refine x_iconst F (nI 0) dX4_apart_59 (by decide +kernel) ?_
            refine x_callV F [] ([]) [0, 1, 2, 3, 4, 5, 6, 7, 8, 9, 10, 11, 12, 13, 14, 15, 16, 17] [] (c_X4_enter l D cA ax ot MX sv al ML ad M n (nI 4) (nI j) (nI k) (nI 0) (nI 0) hc hn hk hwf (wf_apart (by omega) (by omega))) mwX4_enter wmX4_43 rfl (q0 := 0) rfl rfl rfl (Nat.le_of_ble_eq_true rfl) ⟨by decide, by decide⟩ ⟨by show _ ≤ 0; omega, by show _ ≤ 0; omega⟩ rfl rfl (by decide) (by decide) (by decide) dX4_apart_60 (fun r10 u11 hp12 => ?_)
            obtain ⟨x11, rfl, hx⟩ := hp12
            exact x_iret F u11 (⟨_, rfl, fun z => absurd hJ z, fun _ => ⟨fun z => absurd (by rw [ejc] at z; exact z) h40, fun _ => by rw [if_neg h48]; exact hx⟩⟩) (rfl) (by omega) (by omega) dX4_apart_63
        · refine x_bipush F (-3) dX4_apart_43 (by decide +kernel) ?_
          exact x_iret F (ML, M) (⟨_, rfl, fun z => absurd hJ z, fun _ => ⟨fun _ => ⟨rfl, rfl⟩, fun z => absurd (by rw [ejc]; exact h40) z⟩⟩) (rfl) (by omega) (by omega) dX4_apart_45
      · refine x_bipush F (-2) dX4_apart_27 (by decide +kernel) ?_
        exact x_iret F (ML, M) (⟨_, rfl, fun _ => ⟨rfl, rfl⟩, fun z => (z.2.2 h24).elim⟩) (rfl) (by omega) (by omega) dX4_apart_29

set_option maxHeartbeats 4000000 in
set_option maxRecDepth 100000 in
theorem c_X4_come (l : Launch) (D : va_G) (cA : Nat → ClassId) (ax : Nat → Nat) (ot : Nat) (MX : Nat → Nat → Int32) (sv : Nat → Option Nat) (al : Nat → Nat) (ML : Nat → Nat → Int32) (ad : Nat → Nat) (M : Nat → Nat → Int32) (n : Nat) (w : Nat) (p1 p2 p3 : Int32) (hc : ML 5 0 = nI n) (hn : n ≤ 120) (hk : M 0 0 = nI n) (hwf : ∀ i, i < n → wfE ML i) (hw : M 1 0 = nI w) (hw16 : w ≤ 16) : Cg l D cA yX4_come cX4_come 4 (some .int) 5 0 0 ([.ref (ax 100), .int p1, .int p2, .int p3] : List Value) ((wX cA ax (al 100) (ad 100) ot MX sv) ++ (wL cA al ML) ++ (wF cA ad M)) (fun (r : Option Value) (u : (Nat → Nat → Int32) × (Nat → Nat → Int32)) => ∃ x, r = some (.int x) ∧ (¬ trD p1 p2 p3 → x = (-2) ∧ u = (ML, M)) ∧ (trD p1 p2 p3 → (w = 16 → x = (-3) ∧ u = (ML, M)) ∧ (w < 16 → EnQ n ML M (nI 0) (nI w) p1 p2 p3 x u))) (fun u : (Nat → Nat → Int32) × (Nat → Nat → Int32) => (wX cA ax (al 100) (ad 100) ot MX sv) ++ (wL cA al u.1) ++ (wF cA ad u.2)) := by
  refine x_met (by decide +kernel) rfl (Nat.le_of_ble_eq_true rfl) ?_
  intro xp xe xs xm xbl xme xco F hnm
  refine x_lv [(0, .ref (ax 100)), (1, .int p1), (2, .int p2), (3, .int p3)] [0, 1, 2, 3] rfl ?_
  refine x_iload_n F 1 dX4_come_0 rfl ?_
  refine x_iload_n F 2 dX4_come_1 rfl ?_
  refine x_iload_n F 3 dX4_come_2 rfl ?_
  refine x_callSr F [] [] (c_X4_areTraits l D cA p1 p2 p3) mwX4_areTraits wmX4_36 rfl rfl (Nat.le_of_ble_eq_true rfl) ⟨by decide, by decide⟩ ⟨by show _ ≤ 0; omega, by show _ ≤ 0; omega⟩ rfl (by decide) dX4_come_3 (fun r1 hp2 => ?_)
  subst hp2
  refine x_if_ne F 12 dX4_come_6 (by decide) (fun h6 => ?_) (fun h6 => ?_)
  · refine x_aload_n F 0 dX4_come_12 rfl ?_
    refine x_get F inUX4 0 1 rfl rfl (by decide) wfX4_19 rfl dX4_come_13 ?_
    refine x_get F inUX0 8 1 rfl rfl (by decide) wfX4_40 rfl dX4_come_16 ?_
    refine x_top (nI w) (hw) ?_
    refine x_bipush F (nI 16) dX4_come_19 (by decide +kernel) ?_
    refine x_icmp_lt F 27 dX4_come_21 (by decide) (fun h21 => ?_) (fun h21 => ?_)
    · have h21n : w < 16 := (nI_ltI (by omega) (by decide)).mp h21
      refine x_aload_n F 0 dX4_come_27 rfl ?_
      refine x_iconst F (nI 0) dX4_come_28 (by decide +kernel) ?_
      refine x_aload_n F 0 dX4_come_29 rfl ?_
      refine x_get F inUX4 0 1 rfl rfl (by decide) wfX4_19 rfl dX4_come_30 ?_
      refine x_get F inUX0 8 1 rfl rfl (by decide) wfX4_40 rfl dX4_come_33 ?_
      refine x_top (nI w) (hw) ?_
      refine x_iload_n F 1 dX4_come_36 rfl ?_
      refine x_iload_n F 2 dX4_come_37 rfl ?_
      refine x_iload_n F 3 dX4_come_38 rfl ?_
      refine x_callV F [] ([]) [0, 1, 2, 3, 4, 5, 6, 7, 8, 9, 10, 11, 12, 13, 14, 15, 16, 17] [] (c_X4_enter l D cA ax ot MX sv al ML ad M n (nI 0) (nI w) p1 p2 p3 hc hn hk hwf (wf_come (by omega) (show trD p1 p2 p3 from bz_n0.mp h6))) mwX4_enter wmX4_43 rfl (q0 := 0) rfl rfl rfl (Nat.le_of_ble_eq_true rfl) ⟨by decide, by decide⟩ ⟨by show _ ≤ 0; omega, by show _ ≤ 0; omega⟩ rfl rfl (by decide) (by decide) (by decide) dX4_come_39 (fun r3 u4 hp5 => ?_)
      obtain ⟨x4, rfl, hx⟩ := hp5
      exact x_iret F u4 (⟨_, rfl, fun z => absurd (bz_n0.mp h6) z, fun _ => ⟨fun z => absurd z (by omega), fun _ => hx⟩⟩) (rfl) (by omega) (by omega) dX4_come_42
    · have h21n : ¬ w < 16 := fun z => h21 ((nI_ltI (by omega) (by decide)).mpr z)
      refine x_bipush F (-3) dX4_come_24 (by decide +kernel) ?_
      exact x_iret F (ML, M) (⟨_, rfl, fun z => absurd (bz_n0.mp h6) z, fun _ => ⟨fun _ => ⟨rfl, rfl⟩, fun z => absurd z (by omega)⟩⟩) (rfl) (by omega) (by omega) dX4_come_26
  · refine x_bipush F (-2) dX4_come_9 (by decide +kernel) ?_
    exact x_iret F (ML, M) (⟨_, rfl, fun _ => ⟨rfl, rfl⟩, fun z => absurd z (bz_0.mp h6)⟩) (rfl) (by omega) (by omega) dX4_come_11

