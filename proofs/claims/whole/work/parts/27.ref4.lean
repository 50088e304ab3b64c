/-! the reference's public methods: changes -/
set_option maxHeartbeats 4000000 in
set_option maxRecDepth 100000 in
theorem c_X5_go (l : Launch) (D : va_G) (cA : Nat → ClassId) (ar : Nat → Nat) (M : Nat → Nat → Int32) (n : Nat) (p1 : Int32) (hc : M 0 0 = nI n) (hn : n ≤ 120) : Cg l D cA yX5_go cX5_go 2 (some .int) 3 0 0 ([.ref (ar 100), .int p1] : List Value) (wR cA ar M) (fun (r : Option Value) (u : Nat → Nat → Int32) => ∃ x, r = some (.int x) ∧ (¬ isJ (slc 4 M) p1 → x = (-2) ∧ u = M) ∧ (isJ (slc 4 M) p1 → EnR n M (nI 1) p1 (nI 0) (nI 0) (nI 0) x u)) (fun u : Nat → Nat → Int32 => wR cA ar u) := by
  refine x_met (by decide +kernel) rfl (Nat.le_of_ble_eq_true rfl) ?_
  intro xp xe xs xm xbl xme xco F hnm
  refine x_lv [(0, .ref (ar 100)), (1, .int p1)] [0, 1] rfl ?_
  refine x_aload_n F 0 dX5_go_0 rfl ?_
  refine x_iload_n F 1 dX5_go_1 rfl ?_
  refine x_callVr F [] [0, 1, 2, 3, 4, 5, 6, 7, 8, 9, 10, 11, 12, 13, 14, 15, 16, 17, 18, 19, 20, 21, 22, 23, 24, 25] (c_X5_isJob l D cA ar M p1) mwX5_isJob wmX5_115 rfl (q0 := 0) rfl rfl rfl (Nat.le_of_ble_eq_true rfl) ⟨by decide, by decide⟩ ⟨by show _ ≤ 0; omega, by show _ ≤ 0; omega⟩ rfl (by decide) dX5_go_2 (fun r1 hp2 => ?_)
  subst hp2
  refine x_if_eq F 20 dX5_go_5 (by decide) (fun h5 => ?_) (fun h5 => ?_)
  · refine x_bipush F (-2) dX5_go_20 (by decide +kernel) ?_
    exact x_iret F M (⟨_, rfl, fun _ => ⟨rfl, rfl⟩, fun z => absurd z (bz_0.mp h5)⟩) (rfl) (by omega) (by omega) dX5_go_22
  · refine x_aload_n F 0 dX5_go_8 rfl ?_
    refine x_iconst F (nI 1) dX5_go_9 (by decide +kernel) ?_
    refine x_iload_n F 1 dX5_go_10 rfl ?_
    refine x_iconst F (nI 0) dX5_go_11 (by decide +kernel) ?_
    refine x_iconst F (nI 0) dX5_go_12 (by decide +kernel) ?_
    refine x_iconst F (nI 0) dX5_go_13 (by decide +kernel) ?_
    refine x_callV F [] ([]) [0, 1, 2, 3, 4, 5, 6, 7, 8, 9, 10, 11, 12, 13, 14, 15, 16, 17, 18, 19, 20, 21, 22, 23, 24, 25] [] (c_X5_add l D cA ar M n (nI 1) p1 (nI 0) (nI 0) (nI 0) hc hn (wfE_en (by obtain ⟨j, hj, rfl, -⟩ := isJ_nat (bz_n0.mp h5); exact wf_go hj))) mwX5_add wmX5_111 rfl (q0 := 0) rfl rfl rfl (Nat.le_of_ble_eq_true rfl) ⟨by decide, by decide⟩ ⟨by show _ ≤ 0; omega, by show _ ≤ 0; omega⟩ rfl rfl (by decide) (by decide) (by decide) dX5_go_14 (fun r3 u4 hp5 => ?_)
    obtain ⟨x4, rfl, hx⟩ := hp5
    refine x_goto F 22 dX5_go_17 (by decide) ?_
    exact x_iret F u4 (⟨_, rfl, fun z => absurd (bz_n0.mp h5) z, fun _ => hx⟩) (rfl) (by omega) (by omega) dX5_go_22

set_option maxHeartbeats 4000000 in
set_option maxRecDepth 100000 in
theorem c_X5_turn (l : Launch) (D : va_G) (cA : Nat → ClassId) (ar : Nat → Nat) (M : Nat → Nat → Int32) (n : Nat) (p1 p2 p3 p4 : Int32) (hc : M 0 0 = nI n) (hn : n ≤ 120) : Cg l D cA yX5_turn cX5_turn 5 (some .int) 3 0 0 ([.ref (ar 100), .int p1, .int p2, .int p3, .int p4] : List Value) (wR cA ar M) (fun (r : Option Value) (u : Nat → Nat → Int32) => ∃ x, r = some (.int x) ∧ (¬ (isJ (slc 4 M) p1 ∧ trD p2 p3 p4) → x = (-2) ∧ u = M) ∧ (isJ (slc 4 M) p1 ∧ trD p2 p3 p4 → EnR n M (nI 2) p1 p2 p3 p4 x u)) (fun u : Nat → Nat → Int32 => wR cA ar u) := by
  refine x_met (by decide +kernel) rfl (Nat.le_of_ble_eq_true rfl) ?_
  intro xp xe xs xm xbl xme xco F hnm
  refine x_lv [(0, .ref (ar 100)), (1, .int p1), (2, .int p2), (3, .int p3), (4, .int p4)] [0, 1, 2, 3, 4] rfl ?_
  refine x_aload_n F 0 dX5_turn_0 rfl ?_
  refine x_iload_n F 1 dX5_turn_1 rfl ?_
  refine x_callVr F [] [0, 1, 2, 3, 4, 5, 6, 7, 8, 9, 10, 11, 12, 13, 14, 15, 16, 17, 18, 19, 20, 21, 22, 23, 24, 25] (c_X5_isJob l D cA ar M p1) mwX5_isJob wmX5_115 rfl (q0 := 0) rfl rfl rfl (Nat.le_of_ble_eq_true rfl) ⟨by decide, by decide⟩ ⟨by show _ ≤ 0; omega, by show _ ≤ 0; omega⟩ rfl (by decide) dX5_turn_2 (fun r1 hp2 => ?_)
  subst hp2
  refine x_if_eq F 31 dX5_turn_5 (by decide) (fun h5 => ?_) (fun h5 => ?_)
  · refine x_bipush F (-2) dX5_turn_31 (by decide +kernel) ?_
    exact x_iret F M (⟨_, rfl, fun _ => ⟨rfl, rfl⟩, fun z => (bz_0.mp h5 z.1).elim⟩) (rfl) (by omega) (by omega) dX5_turn_33
  · refine x_iload_n F 2 dX5_turn_8 rfl ?_
    refine x_iload_n F 3 dX5_turn_9 rfl ?_
    refine x_iload F 4 dX5_turn_10 rfl ?_
    refine x_callSr F [] [] (c_X5_isTold l D cA p2 p3 p4) mwX5_isTold wmX5_105 rfl rfl (Nat.le_of_ble_eq_true rfl) ⟨by decide, by decide⟩ ⟨by show _ ≤ 0; omega, by show _ ≤ 0; omega⟩ rfl (by decide) dX5_turn_12 (fun r3 hp4 => ?_)
    subst hp4
    refine x_if_eq F 31 dX5_turn_15 (by decide) (fun h15 => ?_) (fun h15 => ?_)
    · refine x_bipush F (-2) dX5_turn_31 (by decide +kernel) ?_
      exact x_iret F M (⟨_, rfl, fun _ => ⟨rfl, rfl⟩, fun z => (bz_0.mp h15 z.2).elim⟩) (rfl) (by omega) (by omega) dX5_turn_33
    · refine x_aload_n F 0 dX5_turn_18 rfl ?_
      refine x_iconst F (nI 2) dX5_turn_19 (by decide +kernel) ?_
      refine x_iload_n F 1 dX5_turn_20 rfl ?_
      refine x_iload_n F 2 dX5_turn_21 rfl ?_
      refine x_iload_n F 3 dX5_turn_22 rfl ?_
      refine x_iload F 4 dX5_turn_23 rfl ?_
      refine x_callV F [] ([]) [0, 1, 2, 3, 4, 5, 6, 7, 8, 9, 10, 11, 12, 13, 14, 15, 16, 17, 18, 19, 20, 21, 22, 23, 24, 25] [] (c_X5_add l D cA ar M n (nI 2) p1 p2 p3 p4 hc hn (wfE_en (by obtain ⟨j, hj, rfl, -⟩ := isJ_nat (bz_n0.mp h5); exact wf_turn hj (show trD p2 p3 p4 from bz_n0.mp h15)))) mwX5_add wmX5_111 rfl (q0 := 0) rfl rfl rfl (Nat.le_of_ble_eq_true rfl) ⟨by decide, by decide⟩ ⟨by show _ ≤ 0; omega, by show _ ≤ 0; omega⟩ rfl rfl (by decide) (by decide) (by decide) dX5_turn_25 (fun r5 u6 hp7 => ?_)
      obtain ⟨x6, rfl, hx⟩ := hp7
      refine x_goto F 33 dX5_turn_28 (by decide) ?_
      exact x_iret F u6 (⟨_, rfl, fun z => absurd ⟨bz_n0.mp h5, bz_n0.mp h15⟩ z, fun _ => hx⟩) (rfl) (by omega) (by omega) dX5_turn_33

set_option maxHeartbeats 4000000 in
set_option maxRecDepth 100000 in
theorem c_X5_size (l : Launch) (D : va_G) (cA : Nat → ClassId) (ar : Nat → Nat) (M : Nat → Nat → Int32) (n : Nat) (p1 p2 : Int32) (hc : M 0 0 = nI n) (hn : n ≤ 120) : Cg l D cA yX5_size cX5_size 3 (some .int) 3 0 0 ([.ref (ar 100), .int p1, .int p2] : List Value) (wR cA ar M) (fun (r : Option Value) (u : Nat → Nat → Int32) => ∃ x, r = some (.int x) ∧ (¬ ((nI 0 ≤ p1 ∧ p1 ≤ nI 5) ∧ nI 0 ≤ p2 ∧ p2 ≤ nI 400) → x = (-2) ∧ u = M) ∧ ((nI 0 ≤ p1 ∧ p1 ≤ nI 5) ∧ nI 0 ≤ p2 ∧ p2 ≤ nI 400 → EnR n M (nI 3) p1 p2 (nI 0) (nI 0) x u)) (fun u : Nat → Nat → Int32 => wR cA ar u) := by
  refine x_met (by decide +kernel) rfl (Nat.le_of_ble_eq_true rfl) ?_
  intro xp xe xs xm xbl xme xco F hnm
  refine x_lv [(0, .ref (ar 100)), (1, .int p1), (2, .int p2)] [0, 1, 2] rfl ?_
  refine x_iload_n F 1 dX5_size_0 rfl ?_
  refine x_iconst F (nI 0) dX5_size_1 (by decide +kernel) ?_
  refine x_iconst F (nI 5) dX5_size_2 (by decide +kernel) ?_
  refine x_callSr F [] [] (c_X5_in l D cA p1 (nI 0) (nI 5)) mwX5_in wmX5_101 rfl rfl (Nat.le_of_ble_eq_true rfl) ⟨by decide, by decide⟩ ⟨by show _ ≤ 0; omega, by show _ ≤ 0; omega⟩ rfl (by decide) dX5_size_3 (fun r1 hp2 => ?_)
  subst hp2
  refine x_if_eq F 32 dX5_size_6 (by decide) (fun h6 => ?_) (fun h6 => ?_)
  · refine x_bipush F (-2) dX5_size_32 (by decide +kernel) ?_
    exact x_iret F M (⟨_, rfl, fun _ => ⟨rfl, rfl⟩, fun z => (bz_0.mp h6 z.1).elim⟩) (rfl) (by omega) (by omega) dX5_size_34
  · refine x_iload_n F 2 dX5_size_9 rfl ?_
    refine x_iconst F (nI 0) dX5_size_10 (by decide +kernel) ?_
    refine x_sipush F (nI 400) dX5_size_11 (by decide +kernel) ?_
    refine x_callSr F [] [] (c_X5_in l D cA p2 (nI 0) (nI 400)) mwX5_in wmX5_101 rfl rfl (Nat.le_of_ble_eq_true rfl) ⟨by decide, by decide⟩ ⟨by show _ ≤ 0; omega, by show _ ≤ 0; omega⟩ rfl (by decide) dX5_size_14 (fun r3 hp4 => ?_)
    subst hp4
    refine x_if_eq F 32 dX5_size_17 (by decide) (fun h17 => ?_) (fun h17 => ?_)
    · refine x_bipush F (-2) dX5_size_32 (by decide +kernel) ?_
      exact x_iret F M (⟨_, rfl, fun _ => ⟨rfl, rfl⟩, fun z => (bz_0.mp h17 z.2).elim⟩) (rfl) (by omega) (by omega) dX5_size_34
    · refine x_aload_n F 0 dX5_size_20 rfl ?_
      refine x_iconst F (nI 3) dX5_size_21 (by decide +kernel) ?_
      refine x_iload_n F 1 dX5_size_22 rfl ?_
      refine x_iload_n F 2 dX5_size_23 rfl ?_
      refine x_iconst F (nI 0) dX5_size_24 (by decide +kernel) ?_
      refine x_iconst F (nI 0) dX5_size_25 (by decide +kernel) ?_
      refine x_callV F [] ([]) [0, 1, 2, 3, 4, 5, 6, 7, 8, 9, 10, 11, 12, 13, 14, 15, 16, 17, 18, 19, 20, 21, 22, 23, 24, 25] [] (c_X5_add l D cA ar M n (nI 3) p1 p2 (nI 0) (nI 0) hc hn (wfE_en (by obtain ⟨j, hj, rfl⟩ := wn (n := 5) (by decide) (bz_n0.mp h6); exact wf_size (by omega) (bz_n0.mp h17)))) mwX5_add wmX5_111 rfl (q0 := 0) rfl rfl rfl (Nat.le_of_ble_eq_true rfl) ⟨by decide, by decide⟩ ⟨by show _ ≤ 0; omega, by show _ ≤ 0; omega⟩ rfl rfl (by decide) (by decide) (by decide) dX5_size_26 (fun r5 u6 hp7 => ?_)
      obtain ⟨x6, rfl, hx⟩ := hp7
      refine x_goto F 34 dX5_size_29 (by decide) ?_
      exact x_iret F u6 (⟨_, rfl, fun z => absurd ⟨bz_n0.mp h6, bz_n0.mp h17⟩ z, fun _ => hx⟩) (rfl) (by omega) (by omega) dX5_size_34

theorem lock_in {x : Int32} : ((-1) ≤ x ∧ x ≤ nI 5) ↔ (x = (-1) ∨ nI 0 ≤ x ∧ x ≤ nI 5) := by
  have e1 : (-1 : Int32).toInt = -1 := by decide +kernel
  have e0 : (nI 0).toInt = 0 := by decide +kernel
  have e5 : (nI 5).toInt = 5 := by decide +kernel
  constructor
  · intro h
    by_cases hx : x = (-1)
    · exact Or.inl hx
    · refine Or.inr ⟨?_, h.2⟩
      have h1 := Int32.le_iff_toInt_le.mp h.1
      have hne : x.toInt ≠ -1 := fun z => hx (Int32.toInt_inj.mp (by rw [z, e1]))
      rw [Int32.le_iff_toInt_le, e0]
      rw [e1] at h1
      omega
  · intro h
    rcases h with rfl | h
    · decide +kernel
    · refine ⟨?_, h.2⟩
      have h1 := Int32.le_iff_toInt_le.mp h.1
      rw [Int32.le_iff_toInt_le, e1]
      rw [e0] at h1
      omega
set_option maxHeartbeats 4000000 in
set_option maxRecDepth 100000 in
theorem c_X5_lock (l : Launch) (D : va_G) (cA : Nat → ClassId) (ar : Nat → Nat) (M : Nat → Nat → Int32) (n : Nat) (p1 p2 : Int32) (hc : M 0 0 = nI n) (hn : n ≤ 120) : Cg l D cA yX5_lock cX5_lock 3 (some .int) 3 0 0 ([.ref (ar 100), .int p1, .int p2] : List Value) (wR cA ar M) (fun (r : Option Value) (u : Nat → Nat → Int32) => ∃ x, r = some (.int x) ∧ (¬ (isJ (slc 4 M) p1 ∧ (p2 = (-1) ∨ nI 0 ≤ p2 ∧ p2 ≤ nI 5)) → x = (-2) ∧ u = M) ∧ (isJ (slc 4 M) p1 ∧ (p2 = (-1) ∨ nI 0 ≤ p2 ∧ p2 ≤ nI 5) → EnR n M (nI 6) p1 p2 (nI 0) (nI 0) x u)) (fun u : Nat → Nat → Int32 => wR cA ar u) := by
  refine x_met (by decide +kernel) rfl (Nat.le_of_ble_eq_true rfl) ?_
  intro xp xe xs xm xbl xme xco F hnm
  refine x_lv [(0, .ref (ar 100)), (1, .int p1), (2, .int p2)] [0, 1, 2] rfl ?_
  refine x_aload_n F 0 dX5_lock_0 rfl ?_
  refine x_iload_n F 1 dX5_lock_1 rfl ?_
  refine x_callVr F [] [0, 1, 2, 3, 4, 5, 6, 7, 8, 9, 10, 11, 12, 13, 14, 15, 16, 17, 18, 19, 20, 21, 22, 23, 24, 25] (c_X5_isJob l D cA ar M p1) mwX5_isJob wmX5_115 rfl (q0 := 0) rfl rfl rfl (Nat.le_of_ble_eq_true rfl) ⟨by decide, by decide⟩ ⟨by show _ ≤ 0; omega, by show _ ≤ 0; omega⟩ rfl (by decide) dX5_lock_2 (fun r1 hp2 => ?_)
  subst hp2
  refine x_if_eq F 30 dX5_lock_5 (by decide) (fun h5 => ?_) (fun h5 => ?_)
  · refine x_bipush F (-2) dX5_lock_30 (by decide +kernel) ?_
    exact x_iret F M (⟨_, rfl, fun _ => ⟨rfl, rfl⟩, fun z => (bz_0.mp h5 z.1).elim⟩) (rfl) (by omega) (by omega) dX5_lock_32
  · refine x_iload_n F 2 dX5_lock_8 rfl ?_
    refine x_iconst F (-1) dX5_lock_9 (by decide +kernel) ?_
    refine x_iconst F (nI 5) dX5_lock_10 (by decide +kernel) ?_
    refine x_callSr F [] [] (c_X5_in l D cA p2 (-1) (nI 5)) mwX5_in wmX5_101 rfl rfl (Nat.le_of_ble_eq_true rfl) ⟨by decide, by decide⟩ ⟨by show _ ≤ 0; omega, by show _ ≤ 0; omega⟩ rfl (by decide) dX5_lock_11 (fun r3 hp4 => ?_)
    subst hp4
    refine x_if_eq F 30 dX5_lock_14 (by decide) (fun h14 => ?_) (fun h14 => ?_)
    · refine x_bipush F (-2) dX5_lock_30 (by decide +kernel) ?_
      exact x_iret F M (⟨_, rfl, fun _ => ⟨rfl, rfl⟩, fun z => (bz_0.mp h14 (lock_in.mpr z.2)).elim⟩) (rfl) (by omega) (by omega) dX5_lock_32
    · refine x_aload_n F 0 dX5_lock_17 rfl ?_
      refine x_bipush F (nI 6) dX5_lock_18 (by decide +kernel) ?_
      refine x_iload_n F 1 dX5_lock_20 rfl ?_
      refine x_iload_n F 2 dX5_lock_21 rfl ?_
      refine x_iconst F (nI 0) dX5_lock_22 (by decide +kernel) ?_
      refine x_iconst F (nI 0) dX5_lock_23 (by decide +kernel) ?_
      refine x_callV F [] ([]) [0, 1, 2, 3, 4, 5, 6, 7, 8, 9, 10, 11, 12, 13, 14, 15, 16, 17, 18, 19, 20, 21, 22, 23, 24, 25] [] (c_X5_add l D cA ar M n (nI 6) p1 p2 (nI 0) (nI 0) hc hn (wfE_en (by obtain ⟨j, hj, ej, -⟩ := isJ_nat (bz_n0.mp h5); rw [ej]; exact wf_lock hj (lock_ok (lock_in.mp (bz_n0.mp h14)))))) mwX5_add wmX5_111 rfl (q0 := 0) rfl rfl rfl (Nat.le_of_ble_eq_true rfl) ⟨by decide, by decide⟩ ⟨by show _ ≤ 0; omega, by show _ ≤ 0; omega⟩ rfl rfl (by decide) (by decide) (by decide) dX5_lock_24 (fun r5 u6 hp7 => ?_)
      obtain ⟨x6, rfl, hx⟩ := hp7
      refine x_goto F 32 dX5_lock_27 (by decide) ?_
      exact x_iret F u6 (⟨_, rfl, fun z => absurd ⟨bz_n0.mp h5, lock_in.mp (bz_n0.mp h14)⟩ z, fun _ => hx⟩) (rfl) (by omega) (by omega) dX5_lock_32

set_option maxHeartbeats 4000000 in
set_option maxRecDepth 100000 in
theorem c_X5_free (l : Launch) (D : va_G) (cA : Nat → ClassId) (ar : Nat → Nat) (M : Nat → Nat → Int32) (n : Nat) (p1 : Int32) (hc : M 0 0 = nI n) (hn : n ≤ 120) : Cg l D cA yX5_free cX5_free 2 (some .int) 3 0 0 ([.ref (ar 100), .int p1] : List Value) (wR cA ar M) (fun (r : Option Value) (u : Nat → Nat → Int32) => ∃ x, r = some (.int x) ∧ (¬ isJ (slc 4 M) p1 → x = (-2) ∧ u = M) ∧ (isJ (slc 4 M) p1 → (slc 4 M 6 p1.toNatClampNeg = (-2) → x = (-3) ∧ u = M) ∧ (¬ slc 4 M 6 p1.toNatClampNeg = (-2) → EnR n M (nI 7) p1 (nI 0) (nI 0) (nI 0) x u))) (fun u : Nat → Nat → Int32 => wR cA ar u) := by
  refine x_met (by decide +kernel) rfl (Nat.le_of_ble_eq_true rfl) ?_
  intro xp xe xs xm xbl xme xco F hnm
  refine x_lv [(0, .ref (ar 100)), (1, .int p1)] [0, 1] rfl ?_
  refine x_aload_n F 0 dX5_free_0 rfl ?_
  refine x_iload_n F 1 dX5_free_1 rfl ?_
  refine x_callVr F [] [0, 1, 2, 3, 4, 5, 6, 7, 8, 9, 10, 11, 12, 13, 14, 15, 16, 17, 18, 19, 20, 21, 22, 23, 24, 25] (c_X5_isJob l D cA ar M p1) mwX5_isJob wmX5_115 rfl (q0 := 0) rfl rfl rfl (Nat.le_of_ble_eq_true rfl) ⟨by decide, by decide⟩ ⟨by show _ ≤ 0; omega, by show _ ≤ 0; omega⟩ rfl (by decide) dX5_free_2 (fun r1 hp2 => ?_)
  subst hp2
  refine x_if_ne F 11 dX5_free_5 (by decide) (fun h5 => ?_) (fun h5 => ?_)
  · have hJ := bz_n0.mp h5
    obtain ⟨j, hj, rfl⟩ := wn (n := 15) (by decide) hJ.1
    have ejc : (nI j).toNatClampNeg = j := nI_clamp (by omega)
    refine x_aload_n F 0 dX5_free_11 rfl ?_
    refine x_get F inUX5 0 10 rfl rfl (by decide) wfX5_38 rfl dX5_free_12 ?_
    refine x_bipush F (nI 64) dX5_free_15 (by decide +kernel) ?_
    refine x_iload_n F 1 dX5_free_17 rfl ?_
    refine x_iadd F (nI (64 + j)) dX5_free_18 (nI_add _ _) ?_
    refine x_iald F 10 (k := 64 + j) rfl (by omega) (by decide) dX5_free_19 ?_
    refine x_bipush F (-2) dX5_free_20 (by decide +kernel) ?_
    refine x_icmp_ne F 30 dX5_free_22 (by decide) (fun h22 => ?_) (fun h22 => ?_)
    · refine x_aload_n F 0 dX5_free_30 rfl ?_
      refine x_bipush F (nI 7) dX5_free_31 (by decide +kernel) ?_
      refine x_iload_n F 1 dX5_free_33 rfl ?_
      refine x_iconst F (nI 0) dX5_free_34 (by decide +kernel) ?_
      refine x_iconst F (nI 0) dX5_free_35 (by decide +kernel) ?_
      refine x_iconst F (nI 0) dX5_free_36 (by decide +kernel) ?_
      refine x_callV F [] ([]) [0, 1, 2, 3, 4, 5, 6, 7, 8, 9, 10, 11, 12, 13, 14, 15, 16, 17, 18, 19, 20, 21, 22, 23, 24, 25] [] (c_X5_add l D cA ar M n (nI 7) (nI j) (nI 0) (nI 0) (nI 0) hc hn (wfE_en (wf_free (by omega)))) mwX5_add wmX5_111 rfl (q0 := 0) rfl rfl rfl (Nat.le_of_ble_eq_true rfl) ⟨by decide, by decide⟩ ⟨by show _ ≤ 0; omega, by show _ ≤ 0; omega⟩ rfl rfl (by decide) (by decide) (by decide) dX5_free_37 (fun r3 u4 hp5 => ?_)
      obtain ⟨x4, rfl, hx⟩ := hp5
      exact x_iret F u4 (⟨_, rfl, fun z => absurd hJ z, fun _ => ⟨fun z => absurd (by rw [ejc] at z; exact z) h22, fun _ => hx⟩⟩) (rfl) (by omega) (by omega) dX5_free_40
    · refine x_bipush F (-3) dX5_free_25 (by decide +kernel) ?_
      refine x_goto F 40 dX5_free_27 (by decide) ?_
      exact x_iret F M (⟨_, rfl, fun z => absurd hJ z, fun _ => ⟨fun _ => ⟨rfl, rfl⟩, fun z => absurd (by rw [ejc]; exact h22) z⟩⟩) (rfl) (by omega) (by omega) dX5_free_40
  · refine x_bipush F (-2) dX5_free_8 (by decide +kernel) ?_
    exact x_iret F M (⟨_, rfl, fun _ => ⟨rfl, rfl⟩, fun z => absurd z (bz_0.mp h5)⟩) (rfl) (by omega) (by omega) dX5_free_10

set_option maxHeartbeats 4000000 in
set_option maxRecDepth 100000 in
theorem c_X5_apart (l : Launch) (D : va_G) (cA : Nat → ClassId) (ar : Nat → Nat) (M : Nat → Nat → Int32) (n : Nat) (p1 p2 p3 : Int32) (hc : M 0 0 = nI n) (hn : n ≤ 120) : Cg l D cA yX5_apart cX5_apart 5 (some .int) 3 0 0 ([.ref (ar 100), .int p1, .int p2, .int p3] : List Value) (wR cA ar M) (fun (r : Option Value) (u : Nat → Nat → Int32) => ∃ x, r = some (.int x) ∧ (¬ (isJ (slc 4 M) p1 ∧ isJ (slc 4 M) p2 ∧ ¬ p1 = p2) → x = (-2) ∧ u = M) ∧ (isJ (slc 4 M) p1 ∧ isJ (slc 4 M) p2 ∧ ¬ p1 = p2 → (bz (slc 4 M 7 p1.toNatClampNeg >>> (p2 &&& 31) &&& nI 1 = nI 1) = p3 → x = (-3) ∧ u = M) ∧ (¬ bz (slc 4 M 7 p1.toNatClampNeg >>> (p2 &&& 31) &&& nI 1 = nI 1) = p3 → EnR n M (if p3 = 0 then nI 5 else nI 4) p1 p2 (nI 0) (nI 0) x u))) (fun u : Nat → Nat → Int32 => wR cA ar u) := by
  refine x_met (by decide +kernel) rfl (Nat.le_of_ble_eq_true rfl) ?_
  intro xp xe xs xm xbl xme xco F hnm
  refine x_lv [(0, .ref (ar 100)), (1, .int p1), (2, .int p2), (3, .int p3)] [0, 1, 2, 3] rfl ?_
  refine x_aload_n F 0 dX5_apart_0 rfl ?_
  refine x_iload_n F 1 dX5_apart_1 rfl ?_
  refine x_callVr F [] [0, 1, 2, 3, 4, 5, 6, 7, 8, 9, 10, 11, 12, 13, 14, 15, 16, 17, 18, 19, 20, 21, 22, 23, 24, 25] (c_X5_isJob l D cA ar M p1) mwX5_isJob wmX5_115 rfl (q0 := 0) rfl rfl rfl (Nat.le_of_ble_eq_true rfl) ⟨by decide, by decide⟩ ⟨by show _ ≤ 0; omega, by show _ ≤ 0; omega⟩ rfl (by decide) dX5_apart_2 (fun r1 hp2 => ?_)
  subst hp2
  refine x_if_eq F 21 dX5_apart_5 (by decide) (fun h5 => ?_) (fun h5 => ?_)
  · refine x_bipush F (-2) dX5_apart_21 (by decide +kernel) ?_
    exact x_iret F M (⟨_, rfl, fun _ => ⟨rfl, rfl⟩, fun z => (bz_0.mp h5 z.1).elim⟩) (rfl) (by omega) (by omega) dX5_apart_23
  · refine x_aload_n F 0 dX5_apart_8 rfl ?_
    refine x_iload_n F 2 dX5_apart_9 rfl ?_
    refine x_callVr F [] [0, 1, 2, 3, 4, 5, 6, 7, 8, 9, 10, 11, 12, 13, 14, 15, 16, 17, 18, 19, 20, 21, 22, 23, 24, 25] (c_X5_isJob l D cA ar M p2) mwX5_isJob wmX5_115 rfl (q0 := 0) rfl rfl rfl (Nat.le_of_ble_eq_true rfl) ⟨by decide, by decide⟩ ⟨by show _ ≤ 0; omega, by show _ ≤ 0; omega⟩ rfl (by decide) dX5_apart_10 (fun r3 hp4 => ?_)
    subst hp4
    refine x_if_eq F 21 dX5_apart_13 (by decide) (fun h13 => ?_) (fun h13 => ?_)
    · refine x_bipush F (-2) dX5_apart_21 (by decide +kernel) ?_
      exact x_iret F M (⟨_, rfl, fun _ => ⟨rfl, rfl⟩, fun z => (bz_0.mp h13 z.2.1).elim⟩) (rfl) (by omega) (by omega) dX5_apart_23
    · refine x_iload_n F 1 dX5_apart_16 rfl ?_
      refine x_iload_n F 2 dX5_apart_17 rfl ?_
      refine x_icmp_ne F 24 dX5_apart_18 (by decide) (fun h18 => ?_) (fun h18 => ?_)
      · have hJ : isJ (slc 4 M) p1 ∧ isJ (slc 4 M) p2 ∧ ¬ p1 = p2 := ⟨bz_n0.mp h5, bz_n0.mp h13, h18⟩
        obtain ⟨j, hj, rfl⟩ := wn (n := 15) (by decide) hJ.1.1
        obtain ⟨k, hk2, rfl⟩ := wn (n := 15) (by decide) hJ.2.1.1
        have ejc : (nI j).toNatClampNeg = j := nI_clamp (by omega)
        refine x_aload_n F 0 dX5_apart_24 rfl ?_
        refine x_get F inUX5 0 11 rfl rfl (by decide) wfX5_41 rfl dX5_apart_25 ?_
        refine x_bipush F (nI 64) dX5_apart_28 (by decide +kernel) ?_
        refine x_iload_n F 1 dX5_apart_30 rfl ?_
        refine x_iadd F (nI (64 + j)) dX5_apart_31 (nI_add _ _) ?_
        refine x_iald F 11 (k := 64 + j) rfl (by omega) (by decide) dX5_apart_32 ?_
        refine x_iload_n F 2 dX5_apart_33 rfl ?_
        refine x_ishr F ((M 11 (64 + j)) >>> ((nI k) &&& 31)) dX5_apart_34 rfl ?_
        refine x_iconst F (nI 1) dX5_apart_35 (by decide +kernel) ?_
        refine x_iand F (((M 11 (64 + j)) >>> ((nI k) &&& 31)) &&& (nI 1)) dX5_apart_36 rfl ?_
        refine x_iconst F (nI 1) dX5_apart_37 (by decide +kernel) ?_
        refine x_icmp_ne F 45 dX5_apart_38 (by decide) (fun h38 => ?_) (fun h38 => ?_)
        · have eb : bz (slc 4 M 7 j >>> (nI k &&& 31) &&& nI 1 = nI 1) = nI 0 := bz_f h38
          refine x_iconst F (nI 0) dX5_apart_45 (by decide +kernel) ?_
          refine x_istore F [(4, .int (nI 0)), (0, .ref (ar 100)), (1, .int (nI j)), (2, .int (nI k)), (3, .int p3)] dX5_apart_46 (by decide) rfl ?_
          refine x_iload F 0 dX5_apart_48 rfl ?_
          refine x_iload_n F 4 dX5_apart_50 rfl ?_
          refine x_icmp_ne F 59 dX5_apart_51 (by decide) (fun h51 => ?_) (fun h51 => ?_)
          · refine x_aload_n F 1 dX5_apart_59 rfl ?_
            refine x_iload_n F 4 dX5_apart_60 rfl ?_
            refine x_if_eq F 68 dX5_apart_61 (by decide) (fun h61 => ?_) (fun h61 => ?_)
            · refine x_iconst F (nI 5) dX5_apart_68 (by decide +kernel) ?_
              refine x_iload_n F 2 dX5_apart_69 rfl ?_
              refine x_iload_n F 3 dX5_apart_70 rfl ?_
              refine x_iconst F (nI 0) dX5_apart_71 (by decide +kernel) ?_
              refine x_iconst F (nI 0) dX5_apart_72 (by decide +kernel) ?_
              refine x_callV F [] ([]) [0, 1, 2, 3, 4, 5, 6, 7, 8, 9, 10, 11, 12, 13, 14, 15, 16, 17, 18, 19, 20, 21, 22, 23, 24, 25] [] (c_X5_add l D cA ar M n (nI 5) (nI j) (nI k) (nI 0) (nI 0) hc hn (wfE_en (wf_near (by omega) (by omega)))) mwX5_add wmX5_111 rfl (q0 := 0) rfl rfl rfl (Nat.le_of_ble_eq_true rfl) ⟨by decide, by decide⟩ ⟨by show _ ≤ 0; omega, by show _ ≤ 0; omega⟩ rfl rfl (by decide) (by decide) (by decide) dX5_apart_73 (fun r5 u6 hp7 => ?_)
              obtain ⟨x6, rfl, hx⟩ := hp7
              exact x_iret F u6 (⟨_, rfl, fun z => absurd hJ z, fun _ => ⟨fun z => absurd (by rw [ejc, eb] at z; exact z) h51, fun _ => by rw [if_pos h61]; exact hx⟩⟩) (rfl) (by omega) (by omega) dX5_apart_76
            · refine x_iconst F (nI 4) dX5_apart_64 (by decide +kernel) ?_
              refine x_goto F 69 dX5_apart_65 (by decide) ?_
              refine x_iload_n F 2 dX5_apart_69 rfl ?_
              refine x_iload_n F 3 dX5_apart_70 rfl ?_
              refine x_iconst F (nI 0) dX5_apart_71 (by decide +kernel) ?_
              refine x_iconst F (nI 0) dX5_apart_72 (by decide +kernel) ?_
              refine x_callV F [] ([]) [0, 1, 2, 3, 4, 5, 6, 7, 8, 9, 10, 11, 12, 13, 14, 15, 16, 17, 18, 19, 20, 21, 22, 23, 24, 25] [] (c_X5_add l D cA ar M n (nI 4) (nI j) (nI k) (nI 0) (nI 0) hc hn (wfE_en (wf_apart (by omega) (by omega)))) mwX5_add wmX5_111 rfl (q0 := 0) rfl rfl rfl (Nat.le_of_ble_eq_true rfl) ⟨by decide, by decide⟩ ⟨by show _ ≤ 0; omega, by show _ ≤ 0; omega⟩ rfl rfl (by decide) (by decide) (by decide) dX5_apart_73 (fun r8 u9 hp10 => ?_)
              obtain ⟨x9, rfl, hx⟩ := hp10
              exact x_iret F u9 (⟨_, rfl, fun z => absurd hJ z, fun _ => ⟨fun z => absurd (by rw [ejc, eb] at z; exact z) h51, fun _ => by rw [if_neg h61]; exact hx⟩⟩) (rfl) (by omega) (by omega) dX5_apart_76
          · refine x_bipush F (-3) dX5_apart_54 (by decide +kernel) ?_
            refine x_goto F 76 dX5_apart_56 (by decide) ?_
            exact x_iret F M (⟨_, rfl, fun z => absurd hJ z, fun _ => ⟨fun _ => ⟨rfl, rfl⟩, fun z => absurd (by rw [ejc, eb]; exact h51) z⟩⟩) (rfl) (by omega) (by omega) dX5_apart_76
        · have eb : bz (slc 4 M 7 j >>> (nI k &&& 31) &&& nI 1 = nI 1) = nI 1 := bz_t h38
          refine x_iconst F (nI 1) dX5_apart_41 (by decide +kernel) ?_
          refine x_goto F 46 dX5_apart_42 (by decide) ?_
          refine x_istore F [(4, .int (nI 1)), (0, .ref (ar 100)), (1, .int (nI j)), (2, .int (nI k)), (3, .int p3)] dX5_apart_46 (by decide) rfl ?_
          refine x_iload F 0 dX5_apart_48 rfl ?_
          refine x_iload_n F 4 dX5_apart_50 rfl ?_
          refine x_icmp_ne F 59 dX5_apart_51 (by decide) (fun h51 => ?_) (fun h51 => ?_)
          · refine x_aload_n F 1 dX5_apart_59 rfl ?_
            refine x_iload_n F 4 dX5_apart_60 rfl ?_
            refine x_if_eq F 68 dX5_apart_61 (by decide) (fun h61 => ?_) (fun h61 => ?_)
            · refine x_iconst F (nI 5) dX5_apart_68 (by decide +kernel) ?_
              refine x_iload_n F 2 dX5_apart_69 rfl ?_
              refine x_iload_n F 3 dX5_apart_70 rfl ?_
              refine x_iconst F (nI 0) dX5_apart_71 (by decide +kernel) ?_
              refine x_iconst F (nI 0) dX5_apart_72 (by decide +kernel) ?_
              refine x_callV F [] ([]) [0, 1, 2, 3, 4, 5, 6, 7, 8, 9, 10, 11, 12, 13, 14, 15, 16, 17, 18, 19, 20, 21, 22, 23, 24, 25] [] (c_X5_add l D cA ar M n (nI 5) (nI j) (nI k) (nI 0) (nI 0) hc hn (wfE_en (wf_near (by omega) (by omega)))) mwX5_add wmX5_111 rfl (q0 := 0) rfl rfl rfl (Nat.le_of_ble_eq_true rfl) ⟨by decide, by decide⟩ ⟨by show _ ≤ 0; omega, by show _ ≤ 0; omega⟩ rfl rfl (by decide) (by decide) (by decide) dX5_apart_73 (fun r11 u12 hp13 => ?_)
              obtain ⟨x12, rfl, hx⟩ := hp13
              exact x_iret F u12 (⟨_, rfl, fun z => absurd hJ z, fun _ => ⟨fun z => absurd (by rw [ejc, eb] at z; exact z) h51, fun _ => by rw [if_pos h61]; exact hx⟩⟩) (rfl) (by omega) (by omega) dX5_apart_76
            · refine x_iconst F (nI 4) dX5_apart_64 (by decide +kernel) ?_
              refine x_goto F 69 dX5_apart_65 (by decide) ?_
              refine x_iload_n F 2 dX5_apart_69 rfl ?_
              refine x_iload_n F 3 dX5_apart_70 rfl ?_
              refine x_iconst F (nI 0) dX5_apart_71 (by decide +kernel) ?_
              refine x_iconst F (nI 0) dX5_apart_72 (by decide +kernel) ?_
              refine x_callV F [] ([]) [0, 1, 2, 3, 4, 5, 6, 7, 8, 9, 10, 11, 12, 13, 14, 15, 16, 17, 18, 19, 20, 21, 22, 23, 24, 25] [] (c_X5_add l D cA ar M n (nI 4) (nI j) (nI k) (nI 0) (nI 0) hc hn (wfE_en (wf_apart (by omega) (by omega)))) mwX5_add wmX5_111 rfl (q0 := 0) rfl rfl rfl (Nat.le_of_ble_eq_true rfl) ⟨by decide, by decide⟩ ⟨by show _ ≤ 0; omega, by show _ ≤ 0; omega⟩ rfl rfl (by decide) (by decide) (by decide) dX5_apart_73 (fun r14 u15 hp16 => ?_)
              obtain ⟨x15, rfl, hx⟩ := hp16
              exact x_iret F u15 (⟨_, rfl, fun z => absurd hJ z, fun _ => ⟨fun z => absurd (by rw [ejc, eb] at z; exact z) h51, fun _ => by rw [if_neg h61]; exact hx⟩⟩) (rfl) (by omega) (by omega) dX5_apart_76
          · refine x_bipush F (-3) dX5_apart_54 (by decide +kernel) ?_
            refine x_goto F 76 dX5_apart_56 (by decide) ?_
            exact x_iret F M (⟨_, rfl, fun z => absurd hJ z, fun _ => ⟨fun _ => ⟨rfl, rfl⟩, fun z => absurd (by rw [ejc, eb]; exact h51) z⟩⟩) (rfl) (by omega) (by omega) dX5_apart_76
      · refine x_bipush F (-2) dX5_apart_21 (by decide +kernel) ?_
        exact x_iret F M (⟨_, rfl, fun _ => ⟨rfl, rfl⟩, fun z => (z.2.2 h18).elim⟩) (rfl) (by omega) (by omega) dX5_apart_23

theorem nI_neg4 {n : Nat} (h : n < 120) : ¬ nI (n + 1) = (-4) := by
  intro z
  have h1 := congrArg Int32.toInt z
  rw [nI_toInt (by omega), show (-4 : Int32).toInt = -4 by decide +kernel] at h1
  omega
set_option maxHeartbeats 4000000 in
set_option maxRecDepth 100000 in
theorem c_X5_come (l : Launch) (D : va_G) (cA : Nat → ClassId) (ar : Nat → Nat) (M : Nat → Nat → Int32) (n : Nat) (w : Nat) (p1 p2 p3 : Int32) (hc : M 0 0 = nI n) (hn : n ≤ 120) (hw : M 13 0 = nI w) (hw16 : w ≤ 16) : Cg l D cA yX5_come cX5_come 5 (some .int) 3 0 0 ([.ref (ar 100), .int p1, .int p2, .int p3] : List Value) (wR cA ar M) (fun (r : Option Value) (u : Nat → Nat → Int32) => ∃ x, r = some (.int x) ∧ (¬ trD p1 p2 p3 → x = (-2) ∧ u = M) ∧ (trD p1 p2 p3 → (w = 16 → x = (-3) ∧ u = M) ∧ (w < 16 → (n = 120 → x = (-4) ∧ u = M) ∧ (n < 120 → x = nI (n + 1) ∧ u = st2 (apR (enR M n (nI 0) (nI w) p1 p2 p3) 4 n) 13 0 (nI (w + 1)))))) (fun u : Nat → Nat → Int32 => wR cA ar u) := by
  refine x_met (by decide +kernel) rfl (Nat.le_of_ble_eq_true rfl) ?_
  intro xp xe xs xm xbl xme xco F hnm
  refine x_lv [(0, .ref (ar 100)), (1, .int p1), (2, .int p2), (3, .int p3)] [0, 1, 2, 3] rfl ?_
  refine x_iload_n F 1 dX5_come_0 rfl ?_
  refine x_iload_n F 2 dX5_come_1 rfl ?_
  refine x_iload_n F 3 dX5_come_2 rfl ?_
  refine x_callSr F [] [] (c_X5_isTold l D cA p1 p2 p3) mwX5_isTold wmX5_105 rfl rfl (Nat.le_of_ble_eq_true rfl) ⟨by decide, by decide⟩ ⟨by show _ ≤ 0; omega, by show _ ≤ 0; omega⟩ rfl (by decide) dX5_come_3 (fun r1 hp2 => ?_)
  subst hp2
  refine x_if_ne F 12 dX5_come_6 (by decide) (fun h6 => ?_) (fun h6 => ?_)
  · refine x_aload_n F 0 dX5_come_12 rfl ?_
    refine x_get F inUX5 0 13 rfl rfl (by decide) wfX5_108 rfl dX5_come_13 ?_
    refine x_top (nI w) (hw) ?_
    refine x_bipush F (nI 16) dX5_come_16 (by decide +kernel) ?_
    refine x_icmp_ne F 24 dX5_come_18 (by decide) (fun h18 => ?_) (fun h18 => ?_)
    · have h18n : ¬ w = 16 := fun z => h18 ((nI_eq (by omega) (by decide)).mpr z)
      refine x_aload_n F 0 dX5_come_24 rfl ?_
      refine x_iconst F (nI 0) dX5_come_25 (by decide +kernel) ?_
      refine x_aload_n F 0 dX5_come_26 rfl ?_
      refine x_get F inUX5 0 13 rfl rfl (by decide) wfX5_108 rfl dX5_come_27 ?_
      refine x_top (nI w) (hw) ?_
      refine x_iload_n F 1 dX5_come_30 rfl ?_
      refine x_iload_n F 2 dX5_come_31 rfl ?_
      refine x_iload_n F 3 dX5_come_32 rfl ?_
      refine x_callV F [] ([]) [0, 1, 2, 3, 4, 5, 6, 7, 8, 9, 10, 11, 12, 13, 14, 15, 16, 17, 18, 19, 20, 21, 22, 23, 24, 25] [] (c_X5_add l D cA ar M n (nI 0) (nI w) p1 p2 p3 hc hn (wfE_en (wf_come (by omega) (show trD p1 p2 p3 from bz_n0.mp h6)))) mwX5_add wmX5_111 rfl (q0 := 0) rfl rfl rfl (Nat.le_of_ble_eq_true rfl) ⟨by decide, by decide⟩ ⟨by show _ ≤ 0; omega, by show _ ≤ 0; omega⟩ rfl rfl (by decide) (by decide) (by decide) dX5_come_33 (fun r3 u4 hp5 => ?_)
      obtain ⟨x4, rfl, hx⟩ := hp5
      refine x_istore F [(4, .int x4), (0, .ref (ar 100)), (1, .int p1), (2, .int p2), (3, .int p3)] dX5_come_36 (by decide) rfl ?_
      refine x_aload_n F 1 dX5_come_38 rfl ?_
      refine x_dup F dX5_come_39 rfl ?_
      refine x_get F inUX5 0 13 rfl rfl (by decide) wfX5_108 rfl dX5_come_40 ?_
      have e13 : u4 13 0 = nI w := by
        rcases Nat.lt_or_ge n 120 with z | z
        · rw [(hx.2 z).2, apR_o _ _ _ _ (Or.inr (by decide))]; exact hw
        · rw [(hx.1 (by omega)).2]; exact hw
      refine x_top (nI w) (e13) ?_
      refine x_iload F 0 dX5_come_43 rfl ?_
      refine x_bipush F (-4) dX5_come_45 (by decide +kernel) ?_
      refine x_icmp_ne F 54 dX5_come_47 (by decide) (fun h47 => ?_) (fun h47 => ?_)
      · have hlt : n < 120 := by rcases Nat.lt_or_ge n 120 with z | z; exact z; exact absurd (hx.1 (by omega)).1 h47
        refine x_iconst F (nI 1) dX5_come_54 (by decide +kernel) ?_
        refine x_iadd F (nI (w + 1)) dX5_come_55 (nI_add _ _) ?_
        refine x_put F inUX5 tyX5_ok nmX5 0 13 (wR cA ar (st2 u4 13 0 (nI (w + 1)))) rfl rfl (by decide) wfX5_108 rfl rfl rfl rfl (Nat.le_of_ble_eq_true rfl) rfl dX5_come_56 ?_
        refine x_iload F 0 dX5_come_59 rfl ?_
        exact x_iret F (st2 u4 13 0 (nI (w + 1))) (⟨_, rfl, fun z => absurd (bz_n0.mp h6) z, fun _ => ⟨fun z => absurd z (by omega), fun _ => ⟨fun z => absurd hlt (by omega), fun z => ⟨(hx.2 z).1, by rw [(hx.2 z).2]⟩⟩⟩⟩) (rfl) (by omega) (by omega) dX5_come_61
      · have hlt : ¬ n < 120 := fun z => by rw [(hx.2 z).1] at h47; exact absurd h47 (nI_neg4 z)
        refine x_iconst F (nI 0) dX5_come_50 (by decide +kernel) ?_
        refine x_goto F 55 dX5_come_51 (by decide) ?_
        refine x_iadd F (nI (w + 0)) dX5_come_55 (nI_add _ _) ?_
        refine x_put F inUX5 tyX5_ok nmX5 0 13 (wR cA ar (st2 u4 13 0 (nI (w + 0)))) rfl rfl (by decide) wfX5_108 rfl rfl rfl rfl (Nat.le_of_ble_eq_true rfl) rfl dX5_come_56 ?_
        refine x_iload F 0 dX5_come_59 rfl ?_
        exact x_iret F (st2 u4 13 0 (nI (w + 0))) (⟨_, rfl, fun z => absurd (bz_n0.mp h6) z, fun _ => ⟨fun z => absurd z (by omega), fun _ => ⟨fun z => ⟨(hx.1 z).1, by rw [Nat.add_zero, ← hw, (hx.1 z).2]; exact st2_self _ _ _⟩, fun z => absurd z hlt⟩⟩⟩) (rfl) (by omega) (by omega) dX5_come_61
    · have h18n : w = 16 := (nI_eq (by omega) (by decide)).mp h18
      refine x_bipush F (-3) dX5_come_21 (by decide +kernel) ?_
      exact x_iret F M (⟨_, rfl, fun z => absurd (bz_n0.mp h6) z, fun _ => ⟨fun _ => ⟨rfl, rfl⟩, fun z => absurd z (by omega)⟩⟩) (rfl) (by omega) (by omega) dX5_come_23
  · refine x_bipush F (-2) dX5_come_9 (by decide +kernel) ?_
    exact x_iret F M (⟨_, rfl, fun _ => ⟨rfl, rfl⟩, fun z => absurd z (bz_0.mp h6)⟩) (rfl) (by omega) (by omega) dX5_come_11

