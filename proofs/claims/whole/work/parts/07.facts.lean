/-! the class's Facts and Log -/
set_option maxHeartbeats 4000000 in
set_option maxRecDepth 100000 in
theorem c_X0_clear (l : Launch) (D : va_G) (cA : Nat → ClassId) (ad : Nat → Nat) (M : Nat → Nat → Int32)  : Cg l D cA yX0_clear cX0_clear 2 none 1 0 0 ([.ref (ad 100)] : List Value) (wF cA ad M) (fun (r : Option Value) (u : Nat → Nat → Int32) => r = none ∧ u = clr M) (fun u : Nat → Nat → Int32 => wF cA ad u) := by
  refine x_met (by decide +kernel) rfl (Nat.le_of_ble_eq_true rfl) ?_
  intro xp xe xs xm xbl xme xco F hnm
  refine x_lv [(0, .ref (ad 100))] [0] rfl ?_
  refine x_aload_n F 0 dX0_clear_0 rfl ?_
  refine x_iconst F (nI 0) dX0_clear_1 (by decide +kernel) ?_
  refine x_put F inUX0 tyX0_ok nmX0 0 0 (wF cA ad (st2 M 0 0 (nI 0))) rfl rfl (by decide) wfX0_43 rfl rfl rfl rfl (Nat.le_of_ble_eq_true rfl) rfl dX0_clear_2 ?_
  refine x_aload_n F 0 dX0_clear_5 rfl ?_
  refine x_iconst F (nI 0) dX0_clear_6 (by decide +kernel) ?_
  refine x_put F inUX0 tyX0_ok nmX0 0 1 (wF cA ad (st2 (st2 M 0 0 (nI 0)) 1 0 (nI 0))) rfl rfl (by decide) wfX0_47 rfl rfl rfl rfl (Nat.le_of_ble_eq_true rfl) rfl dX0_clear_7 ?_
  refine x_iconst F (nI 0) dX0_clear_10 (by decide +kernel) ?_
  refine x_istore_n F [(1, .int (nI 0)), (0, .ref (ad 100))] dX0_clear_11 (by decide) rfl ?_
  rw [← clrI_0]
  refine x_lv [(0, .ref (ad 100)), (1, .int (nI 0))] [1, 0] rfl ?_
  have loop12 : ∀ (nn12 : Nat) (i : Nat), (i ≤ 16) → (16 - i < nn12) → Wx xp l xe (rmL 1 0 0) xs xm ([.ref (ad 100)] : List Value).toArray xbl xme xco 0 0 (xQ xbl D (wF cA ad M) xs ([.ref (ad 100)] : List Value).toArray 0 0 (fun (r : Option Value) (u : Nat → Nat → Int32) => r = none ∧ u = clr M) (fun u : Nat → Nat → Int32 => wF cA ad u)) 2 D (va_A (wF cA ad M) xs.heap.size) 12 [(0, .ref (ad 100)), (1, .int (nI i))] [] (wF cA ad (clrI M i)) := by
    intro nn12
    induction nn12 with
    | zero =>
      intro i hi hm12
      exact absurd hm12 (Nat.not_lt_zero _)
    | succ nn12 ih12 =>
      intro i hi hm12
      refine x_iload_n F 1 dX0_clear_12 rfl ?_
      refine x_bipush F (nI 16) dX0_clear_13 (by decide +kernel) ?_
      refine x_icmp_ge F 46 dX0_clear_15 (by decide) (fun h15 => ?_) (fun h15 => ?_)
      · have h15n : 16 ≤ i := (nI_leI (by decide) (by omega)).mp h15
        obtain rfl : 16 = i := by omega
        refine x_aload_n F 0 dX0_clear_46 rfl ?_
        refine x_get F inUX0 0 8 rfl rfl (by decide) wfX0_31 rfl dX0_clear_47 ?_
        refine x_bipush F (nI 100) dX0_clear_50 (by decide +kernel) ?_
        refine x_callS F [] ([0, 1, 2, 3, 4, 5, 6, 8, 9].filterMap (fun i => (wF cA ad (clrI M 16))[i]?)) [7] [0, 1, 2, 3, 4, 5, 6, 8, 9] (c_J7_fill_53178 l D cA (ad 8) 6 ((clrI M 16) 8) (nI 100) (by decide)) mwJ7_fill_53178 wmX0_50 rfl rfl (Nat.le_of_ble_eq_true rfl) ⟨by decide, by decide⟩ ⟨by show _ ≤ 0; omega, by show _ ≤ 0; omega⟩ rfl rfl (by decide) (by decide) (by decide) dX0_clear_52 (fun r1 u2 hp3 => ?_)
        subst hp3
        refine x_sub (wF cA ad (va_up (clrI M 16) 8 (fl (clrI M 16 8) 6 (nI 100)))) [0, 1, 2, 3, 4, 5, 6, 9, 7, 8] rfl (by decide) ?_
        rw [clrI_16]
        exact x_vret F (clr M) (⟨rfl, rfl⟩) (rfl) (by omega) (by omega) dX0_clear_55
      · have h15n : ¬ 16 ≤ i := fun z => h15 ((nI_leI (by decide) (by omega)).mpr z)
        refine x_aload_n F 0 dX0_clear_18 rfl ?_
        refine x_get F inUX0 0 2 rfl rfl (by decide) wfX0_9 rfl dX0_clear_19 ?_
        refine x_iload_n F 1 dX0_clear_22 rfl ?_
        refine x_iconst F (nI 0) dX0_clear_23 (by decide +kernel) ?_
        refine x_zast F 1 (k := i) (wF cA ad (st2 (clrI M i) 2 i (nI 0))) rfl (by omega) (by decide) (by decide +kernel) rfl dX0_clear_24 ?_
        refine x_aload_n F 0 dX0_clear_25 rfl ?_
        refine x_get F inUX0 0 6 rfl rfl (by decide) wfX0_25 rfl dX0_clear_26 ?_
        refine x_iload_n F 1 dX0_clear_29 rfl ?_
        refine x_bipush F (-2) dX0_clear_30 (by decide +kernel) ?_
        refine x_iast F 5 (k := i) (wF cA ad (st2 (st2 (clrI M i) 2 i (nI 0)) 6 i (-2))) rfl (by omega) (by decide) rfl dX0_clear_32 ?_
        refine x_aload_n F 0 dX0_clear_33 rfl ?_
        refine x_get F inUX0 0 7 rfl rfl (by decide) wfX0_28 rfl dX0_clear_34 ?_
        refine x_iload_n F 1 dX0_clear_37 rfl ?_
        refine x_iconst F (nI 0) dX0_clear_38 (by decide +kernel) ?_
        refine x_iast F 6 (k := i) (wF cA ad (st2 (st2 (st2 (clrI M i) 2 i (nI 0)) 6 i (-2)) 7 i (nI 0))) rfl (by omega) (by decide) rfl dX0_clear_39 ?_
        refine x_iinc F (nI (i + 1)) 1 [(1, .int (nI (i + 1))), (0, .ref (ad 100))] dX0_clear_40 rfl ((nI_add i 1)) (by decide) rfl ?_
        refine x_goto F 12 dX0_clear_43 (by decide) ?_
        rw [clrI_s]
        refine x_lv [(0, .ref (ad 100)), (1, .int (nI (i + 1)))] [1, 0] rfl ?_
        exact ih12 (i + 1) (by omega) (by omega)
  exact loop12 _ 0 (Nat.zero_le _) (Nat.lt_succ_self _)

set_option maxHeartbeats 4000000 in
set_option maxRecDepth 100000 in
theorem c_X0_setTraits (l : Launch) (D : va_G) (cA : Nat → ClassId) (ad : Nat → Nat) (M : Nat → Nat → Int32) (al : Nat → Nat) (ML : Nat → Nat → Int32) (i w : Nat) (hi : i < 120) (hw : w < 16) : Cg l D cA yX0_setTraits cX0_setTraits 4 none 0 0 0 ([.ref (ad 100), .ref (al 100), .int (nI i), .int (nI w)] : List Value) ((wF cA ad M) ++ (wL cA al ML)) (fun (r : Option Value) (u : Nat → Nat → Int32) => r = none ∧ u = traitF ML i w M) (fun u : Nat → Nat → Int32 => (wF cA ad u) ++ (wL cA al ML)) := by
  refine x_met (by decide +kernel) rfl (Nat.le_of_ble_eq_true rfl) ?_
  intro xp xe xs xm xbl xme xco F hnm
  refine x_lv [(0, .ref (ad 100)), (1, .ref (al 100)), (2, .int (nI i)), (3, .int (nI w))] [0, 1, 2, 3] rfl ?_
  refine x_aload_n F 0 dX0_setTraits_0 rfl ?_
  refine x_get F inUX0 0 3 rfl rfl (by decide) wfX0_15 rfl dX0_setTraits_1 ?_
  refine x_iload_n F 3 dX0_setTraits_4 rfl ?_
  refine x_aload_n F 1 dX0_setTraits_5 rfl ?_
  refine x_get F inUX1 10 2 rfl rfl (by decide) wfX0_77 rfl dX0_setTraits_6 ?_
  refine x_iload_n F 2 dX0_setTraits_9 rfl ?_
  refine x_iald F 13 (k := i) rfl (by omega) (by decide) dX0_setTraits_10 ?_
  refine x_iast F 2 (k := w) ((wF cA ad (st2 M 3 w (ML 2 i))) ++ (wL cA al ML)) rfl (by omega) (by decide) rfl dX0_setTraits_11 ?_
  refine x_aload_n F 0 dX0_setTraits_12 rfl ?_
  refine x_get F inUX0 0 4 rfl rfl (by decide) wfX0_19 rfl dX0_setTraits_13 ?_
  refine x_iload_n F 3 dX0_setTraits_16 rfl ?_
  refine x_aload_n F 1 dX0_setTraits_17 rfl ?_
  refine x_get F inUX1 10 3 rfl rfl (by decide) wfX0_95 rfl dX0_setTraits_18 ?_
  refine x_iload_n F 2 dX0_setTraits_21 rfl ?_
  refine x_iald F 14 (k := i) rfl (by omega) (by decide) dX0_setTraits_22 ?_
  refine x_iast F 3 (k := w) ((wF cA ad (st2 (st2 M 3 w (ML 2 i)) 4 w (ML 3 i))) ++ (wL cA al ML)) rfl (by omega) (by decide) rfl dX0_setTraits_23 ?_
  refine x_aload_n F 0 dX0_setTraits_24 rfl ?_
  refine x_get F inUX0 0 5 rfl rfl (by decide) wfX0_22 rfl dX0_setTraits_25 ?_
  refine x_iload_n F 3 dX0_setTraits_28 rfl ?_
  refine x_aload_n F 1 dX0_setTraits_29 rfl ?_
  refine x_get F inUX1 10 4 rfl rfl (by decide) wfX0_98 rfl dX0_setTraits_30 ?_
  refine x_iload_n F 2 dX0_setTraits_33 rfl ?_
  refine x_iald F 15 (k := i) rfl (by omega) (by decide) dX0_setTraits_34 ?_
  refine x_iast F 4 (k := w) ((wF cA ad (st2 (st2 (st2 M 3 w (ML 2 i)) 4 w (ML 3 i)) 5 w (ML 4 i))) ++ (wL cA al ML)) rfl (by omega) (by decide) rfl dX0_setTraits_35 ?_
  exact x_vret F (traitF ML i w M) (⟨rfl, rfl⟩) (rfl) (by omega) (by omega) dX0_setTraits_36

set_option maxHeartbeats 4000000 in
set_option maxRecDepth 100000 in
theorem c_X0_leave (l : Launch) (D : va_G) (cA : Nat → ClassId) (ad : Nat → Nat) (M : Nat → Nat → Int32) (w : Nat) (hw : w < 16) : Cg l D cA yX0_leave cX0_leave 3 none 0 0 0 ([.ref (ad 100), .int (nI w)] : List Value) (wF cA ad M) (fun (r : Option Value) (u : Nat → Nat → Int32) => r = none ∧ u = leaveI M w 16) (fun u : Nat → Nat → Int32 => wF cA ad u) := by
  refine x_met (by decide +kernel) rfl (Nat.le_of_ble_eq_true rfl) ?_
  intro xp xe xs xm xbl xme xco F hnm
  refine x_lv [(0, .ref (ad 100)), (1, .int (nI w))] [0, 1] rfl ?_
  refine x_aload_n F 0 dX0_leave_0 rfl ?_
  refine x_get F inUX0 0 2 rfl rfl (by decide) wfX0_9 rfl dX0_leave_1 ?_
  refine x_iload_n F 1 dX0_leave_4 rfl ?_
  refine x_iconst F (nI 0) dX0_leave_5 (by decide +kernel) ?_
  refine x_zast F 1 (k := w) (wF cA ad (st2 M 2 w (nI 0))) rfl (by omega) (by decide) (by decide +kernel) rfl dX0_leave_6 ?_
  refine x_aload_n F 0 dX0_leave_7 rfl ?_
  refine x_get F inUX0 0 6 rfl rfl (by decide) wfX0_25 rfl dX0_leave_8 ?_
  refine x_iload_n F 1 dX0_leave_11 rfl ?_
  refine x_bipush F (-2) dX0_leave_12 (by decide +kernel) ?_
  refine x_iast F 5 (k := w) (wF cA ad (st2 (st2 M 2 w (nI 0)) 6 w (-2))) rfl (by omega) (by decide) rfl dX0_leave_14 ?_
  refine x_aload_n F 0 dX0_leave_15 rfl ?_
  refine x_get F inUX0 0 7 rfl rfl (by decide) wfX0_28 rfl dX0_leave_16 ?_
  refine x_iload_n F 1 dX0_leave_19 rfl ?_
  refine x_iconst F (nI 0) dX0_leave_20 (by decide +kernel) ?_
  refine x_iast F 6 (k := w) (wF cA ad (st2 (st2 (st2 M 2 w (nI 0)) 6 w (-2)) 7 w (nI 0))) rfl (by omega) (by decide) rfl dX0_leave_21 ?_
  refine x_iconst F (nI 0) dX0_leave_22 (by decide +kernel) ?_
  refine x_istore_n F [(2, .int (nI 0)), (0, .ref (ad 100)), (1, .int (nI w))] dX0_leave_23 (by decide) rfl ?_
  rw [← leaveI_0]
  refine x_lv [(0, .ref (ad 100)), (1, .int (nI w)), (2, .int (nI 0))] [1, 2, 0] rfl ?_
  have loop24 : ∀ (nn24 : Nat) (i : Nat), (i ≤ 16) → (16 - i < nn24) → Wx xp l xe (rmL 0 0 0) xs xm ([.ref (ad 100), .int (nI w)] : List Value).toArray xbl xme xco 0 0 (xQ xbl D (wF cA ad M) xs ([.ref (ad 100), .int (nI w)] : List Value).toArray 0 0 (fun (r : Option Value) (u : Nat → Nat → Int32) => r = none ∧ u = leaveI M w 16) (fun u : Nat → Nat → Int32 => wF cA ad u)) 3 D (va_A (wF cA ad M) xs.heap.size) 24 [(0, .ref (ad 100)), (1, .int (nI w)), (2, .int (nI i))] [] (wF cA ad (leaveI M w i)) := by
    intro nn24
    induction nn24 with
    | zero =>
      intro i hi hm24
      exact absurd hm24 (Nat.not_lt_zero _)
    | succ nn24 ih24 =>
      intro i hi hm24
      refine x_iload_n F 2 dX0_leave_24 rfl ?_
      refine x_bipush F (nI 16) dX0_leave_25 (by decide +kernel) ?_
      refine x_icmp_ge F 50 dX0_leave_27 (by decide) (fun h27 => ?_) (fun h27 => ?_)
      · have h27n : 16 ≤ i := (nI_leI (by decide) (by omega)).mp h27
        obtain rfl : 16 = i := by omega
        exact x_vret F (leaveI M w 16) (⟨rfl, rfl⟩) (rfl) (by omega) (by omega) dX0_leave_50
      · have h27n : ¬ 16 ≤ i := fun z => h27 ((nI_leI (by decide) (by omega)).mpr z)
        refine x_aload_n F 0 dX0_leave_30 rfl ?_
        refine x_get F inUX0 0 7 rfl rfl (by decide) wfX0_28 rfl dX0_leave_31 ?_
        refine x_iload_n F 2 dX0_leave_34 rfl ?_
        refine x_dup2 F dX0_leave_35 rfl rfl ?_
        refine x_iald F 6 (k := i) rfl (by omega) (by decide) dX0_leave_36 ?_
        refine x_iconst F (nI 1) dX0_leave_37 (by decide +kernel) ?_
        refine x_iload_n F 1 dX0_leave_38 rfl ?_
        refine x_ishl F ((nI 1) <<< ((nI w) &&& 31)) dX0_leave_39 rfl ?_
        refine x_iconst F (-1) dX0_leave_40 (by decide +kernel) ?_
        refine x_ixor F (((nI 1) <<< ((nI w) &&& 31)) ^^^ (-1)) dX0_leave_41 rfl ?_
        refine x_iand F (((leaveI M w i) 7 i) &&& (((nI 1) <<< ((nI w) &&& 31)) ^^^ (-1))) dX0_leave_42 rfl ?_
        refine x_iast F 6 (k := i) (wF cA ad (st2 (leaveI M w i) 7 i (((leaveI M w i) 7 i) &&& (((nI 1) <<< ((nI w) &&& 31)) ^^^ (-1))))) rfl (by omega) (by decide) rfl dX0_leave_43 ?_
        refine x_iinc F (nI (i + 1)) 2 [(2, .int (nI (i + 1))), (0, .ref (ad 100)), (1, .int (nI w))] dX0_leave_44 rfl ((nI_add i 1)) (by decide) rfl ?_
        refine x_goto F 24 dX0_leave_47 (by decide) ?_
        refine x_ws (wF cA ad (leaveI M w (i + 1))) (by rw [← leaveI_s]; rfl) ?_
        refine x_lv [(0, .ref (ad 100)), (1, .int (nI w)), (2, .int (nI (i + 1)))] [1, 2, 0] rfl ?_
        exact ih24 (i + 1) (by omega) (by omega)
  exact loop24 _ 0 (Nat.zero_le _) (Nat.lt_succ_self _)

set_option maxHeartbeats 4000000 in
set_option maxRecDepth 100000 in
theorem c_X0_setApart1 (l : Launch) (D : va_G) (cA : Nat → ClassId) (ad : Nat → Nat) (M : Nat → Nat → Int32) (a b : Nat) (ha : a < 16) (hb : b < 16) : Cg l D cA yX0_setApart cX0_setApart 4 none 0 0 0 ([.ref (ad 100), .int (nI a), .int (nI b), .int (nI 1)] : List Value) (wF cA ad M) (fun (r : Option Value) (u : Nat → Nat → Int32) => r = none ∧ u = partF M a b) (fun u : Nat → Nat → Int32 => wF cA ad u) := by
  refine x_met (by decide +kernel) rfl (Nat.le_of_ble_eq_true rfl) ?_
  intro xp xe xs xm xbl xme xco F hnm
  refine x_lv [(0, .ref (ad 100)), (1, .int (nI a)), (2, .int (nI b)), (3, .int (nI 1))] [0, 1, 2, 3] rfl ?_
  refine x_iload_n F 3 dX0_setApart_0 rfl ?_
  refine x_if_eq F 31 dX0_setApart_1 (by decide) (fun h1 => ?_) (fun h1 => ?_)
  · have h1n : 1 = 0 := (nI_eq (by decide) (by decide)).mp (h1.trans nI_0.symm)
    exact absurd h1n (by decide)
  · have h1n : ¬ 1 = 0 := fun z => h1 (((nI_eq (by decide) (by decide)).mpr z).trans nI_0)
    refine x_aload_n F 0 dX0_setApart_4 rfl ?_
    refine x_get F inUX0 0 7 rfl rfl (by decide) wfX0_28 rfl dX0_setApart_5 ?_
    refine x_iload_n F 1 dX0_setApart_8 rfl ?_
    refine x_dup2 F dX0_setApart_9 rfl rfl ?_
    refine x_iald F 6 (k := a) rfl (by omega) (by decide) dX0_setApart_10 ?_
    refine x_iconst F (nI 1) dX0_setApart_11 (by decide +kernel) ?_
    refine x_iload_n F 2 dX0_setApart_12 rfl ?_
    refine x_ishl F ((nI 1) <<< ((nI b) &&& 31)) dX0_setApart_13 rfl ?_
    refine x_ior F ((M 7 a) ||| ((nI 1) <<< ((nI b) &&& 31))) dX0_setApart_14 rfl ?_
    refine x_iast F 6 (k := a) (wF cA ad (st2 M 7 a ((M 7 a) ||| ((nI 1) <<< ((nI b) &&& 31))))) rfl (by omega) (by decide) rfl dX0_setApart_15 ?_
    refine x_aload_n F 0 dX0_setApart_16 rfl ?_
    refine x_get F inUX0 0 7 rfl rfl (by decide) wfX0_28 rfl dX0_setApart_17 ?_
    refine x_iload_n F 2 dX0_setApart_20 rfl ?_
    refine x_dup2 F dX0_setApart_21 rfl rfl ?_
    refine x_iald F 6 (k := b) rfl (by omega) (by decide) dX0_setApart_22 ?_
    refine x_iconst F (nI 1) dX0_setApart_23 (by decide +kernel) ?_
    refine x_iload_n F 1 dX0_setApart_24 rfl ?_
    refine x_ishl F ((nI 1) <<< ((nI a) &&& 31)) dX0_setApart_25 rfl ?_
    refine x_ior F (((st2 M 7 a ((M 7 a) ||| ((nI 1) <<< ((nI b) &&& 31)))) 7 b) ||| ((nI 1) <<< ((nI a) &&& 31))) dX0_setApart_26 rfl ?_
    refine x_iast F 6 (k := b) (wF cA ad (st2 (st2 M 7 a ((M 7 a) ||| ((nI 1) <<< ((nI b) &&& 31)))) 7 b (((st2 M 7 a ((M 7 a) ||| ((nI 1) <<< ((nI b) &&& 31)))) 7 b) ||| ((nI 1) <<< ((nI a) &&& 31))))) rfl (by omega) (by decide) rfl dX0_setApart_27 ?_
    refine x_goto F 59 dX0_setApart_28 (by decide) ?_
    exact x_vret F (partF M a b) (⟨rfl, rfl⟩) (rfl) (by omega) (by omega) dX0_setApart_59

set_option maxHeartbeats 4000000 in
set_option maxRecDepth 100000 in
theorem c_X0_setApart0 (l : Launch) (D : va_G) (cA : Nat → ClassId) (ad : Nat → Nat) (M : Nat → Nat → Int32) (a b : Nat) (ha : a < 16) (hb : b < 16) : Cg l D cA yX0_setApart cX0_setApart 4 none 0 0 0 ([.ref (ad 100), .int (nI a), .int (nI b), .int (nI 0)] : List Value) (wF cA ad M) (fun (r : Option Value) (u : Nat → Nat → Int32) => r = none ∧ u = unpartF M a b) (fun u : Nat → Nat → Int32 => wF cA ad u) := by
  refine x_met (by decide +kernel) rfl (Nat.le_of_ble_eq_true rfl) ?_
  intro xp xe xs xm xbl xme xco F hnm
  refine x_lv [(0, .ref (ad 100)), (1, .int (nI a)), (2, .int (nI b)), (3, .int (nI 0))] [0, 1, 2, 3] rfl ?_
  refine x_iload_n F 3 dX0_setApart_0 rfl ?_
  refine x_if_eq F 31 dX0_setApart_1 (by decide) (fun h1 => ?_) (fun h1 => ?_)
  · have h1n : 0 = 0 := (nI_eq (by decide) (by decide)).mp (h1.trans nI_0.symm)
    refine x_aload_n F 0 dX0_setApart_31 rfl ?_
    refine x_get F inUX0 0 7 rfl rfl (by decide) wfX0_28 rfl dX0_setApart_32 ?_
    refine x_iload_n F 1 dX0_setApart_35 rfl ?_
    refine x_dup2 F dX0_setApart_36 rfl rfl ?_
    refine x_iald F 6 (k := a) rfl (by omega) (by decide) dX0_setApart_37 ?_
    refine x_iconst F (nI 1) dX0_setApart_38 (by decide +kernel) ?_
    refine x_iload_n F 2 dX0_setApart_39 rfl ?_
    refine x_ishl F ((nI 1) <<< ((nI b) &&& 31)) dX0_setApart_40 rfl ?_
    refine x_iconst F (-1) dX0_setApart_41 (by decide +kernel) ?_
    refine x_ixor F (((nI 1) <<< ((nI b) &&& 31)) ^^^ (-1)) dX0_setApart_42 rfl ?_
    refine x_iand F ((M 7 a) &&& (((nI 1) <<< ((nI b) &&& 31)) ^^^ (-1))) dX0_setApart_43 rfl ?_
    refine x_iast F 6 (k := a) (wF cA ad (st2 M 7 a ((M 7 a) &&& (((nI 1) <<< ((nI b) &&& 31)) ^^^ (-1))))) rfl (by omega) (by decide) rfl dX0_setApart_44 ?_
    refine x_aload_n F 0 dX0_setApart_45 rfl ?_
    refine x_get F inUX0 0 7 rfl rfl (by decide) wfX0_28 rfl dX0_setApart_46 ?_
    refine x_iload_n F 2 dX0_setApart_49 rfl ?_
    refine x_dup2 F dX0_setApart_50 rfl rfl ?_
    refine x_iald F 6 (k := b) rfl (by omega) (by decide) dX0_setApart_51 ?_
    refine x_iconst F (nI 1) dX0_setApart_52 (by decide +kernel) ?_
    refine x_iload_n F 1 dX0_setApart_53 rfl ?_
    refine x_ishl F ((nI 1) <<< ((nI a) &&& 31)) dX0_setApart_54 rfl ?_
    refine x_iconst F (-1) dX0_setApart_55 (by decide +kernel) ?_
    refine x_ixor F (((nI 1) <<< ((nI a) &&& 31)) ^^^ (-1)) dX0_setApart_56 rfl ?_
    refine x_iand F (((st2 M 7 a ((M 7 a) &&& (((nI 1) <<< ((nI b) &&& 31)) ^^^ (-1)))) 7 b) &&& (((nI 1) <<< ((nI a) &&& 31)) ^^^ (-1))) dX0_setApart_57 rfl ?_
    refine x_iast F 6 (k := b) (wF cA ad (st2 (st2 M 7 a ((M 7 a) &&& (((nI 1) <<< ((nI b) &&& 31)) ^^^ (-1)))) 7 b (((st2 M 7 a ((M 7 a) &&& (((nI 1) <<< ((nI b) &&& 31)) ^^^ (-1)))) 7 b) &&& (((nI 1) <<< ((nI a) &&& 31)) ^^^ (-1))))) rfl (by omega) (by decide) rfl dX0_setApart_58 ?_
    exact x_vret F (unpartF M a b) (⟨rfl, rfl⟩) (rfl) (by omega) (by omega) dX0_setApart_59
  · have h1n : ¬ 0 = 0 := fun z => h1 (((nI_eq (by decide) (by decide)).mpr z).trans nI_0)
    exact absurd h1n (by decide)

set_option maxHeartbeats 4000000 in
set_option maxRecDepth 100000 in
theorem c_X0_learnOfJob (l : Launch) (D : va_G) (cA : Nat → ClassId) (ad : Nat → Nat) (M : Nat → Nat → Int32) (al : Nat → Nat) (ML : Nat → Nat → Int32) (i k w : Nat) (hi : i < 120) (hw : w < 16) (hk : ML 0 i = nI k) (hk8 : k < 8) (hk3 : k ≠ 3) (hb : k = 4 ∨ k = 5 → ∃ b : Nat, b < 16 ∧ ML 2 i = nI b) : Cg l D cA yX0_learnOfJob cX0_learnOfJob 4 none 1 0 0 ([.ref (ad 100), .ref (al 100), .int (nI i), .int (nI w)] : List Value) ((wF cA ad M) ++ (wL cA al ML)) (fun (r : Option Value) (u : Nat → Nat → Int32) => r = none ∧ u = stepJ ML i w M) (fun u : Nat → Nat → Int32 => (wF cA ad u) ++ (wL cA al ML)) := by
  refine x_met (by decide +kernel) rfl (Nat.le_of_ble_eq_true rfl) ?_
  intro xp xe xs xm xbl xme xco F hnm
  refine x_lv [(0, .ref (ad 100)), (1, .ref (al 100)), (2, .int (nI i)), (3, .int (nI w))] [0, 1, 2, 3] rfl ?_
  refine x_aload_n F 1 dX0_learnOfJob_0 rfl ?_
  refine x_get F inUX1 10 0 rfl rfl (by decide) wfX0_71 rfl dX0_learnOfJob_1 ?_
  refine x_iload_n F 2 dX0_learnOfJob_4 rfl ?_
  refine x_iald F 11 (k := i) rfl (by omega) (by decide) dX0_learnOfJob_5 ?_
  rcases (show k = 0 ∨ k = 1 ∨ k = 2 ∨ k = 4 ∨ k = 5 ∨ k = 6 ∨ k = 7 by omega) with rfl | rfl | rfl | rfl | rfl | rfl | rfl
  · have es : stepJ ML i w M = traitF ML i w (st2 (st2 M 2 w (nI 1)) 1 0 (nI (w + 1))) := by unfold stepJ; rw [hk]; rfl
    refine x_top (nI 0) (hk) ?_
    refine x_tableIn F 52 dX0_learnOfJob_6 (by decide +kernel) (by decide +kernel) (off := 46) (by decide +kernel) (by decide) ?_
    refine x_aload_n F 0 dX0_learnOfJob_52 rfl ?_
    refine x_get F inUX0 0 2 rfl rfl (by decide) wfX0_9 rfl dX0_learnOfJob_53 ?_
    refine x_iload_n F 3 dX0_learnOfJob_56 rfl ?_
    refine x_iconst F (nI 1) dX0_learnOfJob_57 (by decide +kernel) ?_
    refine x_zast F 1 (k := w) ((wF cA ad (st2 M 2 w (nI 1))) ++ (wL cA al ML)) rfl (by omega) (by decide) (by decide +kernel) rfl dX0_learnOfJob_58 ?_
    refine x_aload_n F 0 dX0_learnOfJob_59 rfl ?_
    refine x_iload_n F 3 dX0_learnOfJob_60 rfl ?_
    refine x_iconst F (nI 1) dX0_learnOfJob_61 (by decide +kernel) ?_
    refine x_iadd F (nI (w + 1)) dX0_learnOfJob_62 (nI_add _ _) ?_
    refine x_put F inUX0 tyX0_ok nmX0 0 1 ((wF cA ad (st2 (st2 M 2 w (nI 1)) 1 0 (nI (w + 1)))) ++ (wL cA al ML)) rfl rfl (by decide) wfX0_47 rfl rfl rfl rfl (Nat.le_of_ble_eq_true rfl) rfl dX0_learnOfJob_63 ?_
    refine x_aload_n F 0 dX0_learnOfJob_66 rfl ?_
    refine x_aload_n F 1 dX0_learnOfJob_67 rfl ?_
    refine x_iload_n F 2 dX0_learnOfJob_68 rfl ?_
    refine x_iload_n F 3 dX0_learnOfJob_69 rfl ?_
    refine x_callV F [] ([]) [0, 1, 2, 3, 4, 5, 6, 7, 8, 9, 10, 11, 12, 13, 14, 15] [] (c_X0_setTraits l D cA ad (st2 (st2 M 2 w (nI 1)) 1 0 (nI (w + 1))) al ML i w hi hw) mwX0_setTraits wmX0_84 rfl (q0 := 0) rfl rfl rfl (Nat.le_of_ble_eq_true rfl) ⟨by decide, by decide⟩ ⟨by show _ ≤ 0; omega, by show _ ≤ 0; omega⟩ rfl rfl (by decide) (by decide) (by decide) dX0_learnOfJob_70 (fun r1 u2 hp3 => ?_)
    obtain ⟨rfl, rfl⟩ := hp3
    refine x_goto F 150 dX0_learnOfJob_73 (by decide) ?_
    exact x_vret F (traitF ML i w (st2 (st2 M 2 w (nI 1)) 1 0 (nI (w + 1)))) (⟨rfl, es.symm⟩) (rfl) (by omega) (by omega) dX0_learnOfJob_150
  · have es : stepJ ML i w M = leaveI M w 16 := by unfold stepJ; rw [hk]; rfl
    refine x_top (nI 1) (hk) ?_
    refine x_tableIn F 76 dX0_learnOfJob_6 (by decide +kernel) (by decide +kernel) (off := 70) (by decide +kernel) (by decide) ?_
    refine x_aload_n F 0 dX0_learnOfJob_76 rfl ?_
    refine x_iload_n F 3 dX0_learnOfJob_77 rfl ?_
    refine x_callV F [] (wL cA al ML) [0, 1, 2, 3, 4, 5, 6, 7, 8, 9] [10, 11, 12, 13, 14, 15] (c_X0_leave l D cA ad M w hw) mwX0_leave wmX0_87 rfl (q0 := 0) rfl rfl rfl (Nat.le_of_ble_eq_true rfl) ⟨by decide, by decide⟩ ⟨by show _ ≤ 0; omega, by show _ ≤ 0; omega⟩ rfl rfl (by decide) (by decide) (by decide) dX0_learnOfJob_78 (fun r4 u5 hp6 => ?_)
    obtain ⟨rfl, rfl⟩ := hp6
    refine x_sub ((wF cA ad (leaveI M w 16)) ++ (wL cA al ML)) [6, 7, 8, 9, 10, 11, 12, 13, 14, 15, 0, 1, 2, 3, 4, 5] rfl (by decide) ?_
    refine x_goto F 150 dX0_learnOfJob_81 (by decide) ?_
    exact x_vret F (leaveI M w 16) (⟨rfl, es.symm⟩) (rfl) (by omega) (by omega) dX0_learnOfJob_150
  · have es : stepJ ML i w M = traitF ML i w M := by unfold stepJ; rw [hk]; rfl
    refine x_top (nI 2) (hk) ?_
    refine x_tableIn F 84 dX0_learnOfJob_6 (by decide +kernel) (by decide +kernel) (off := 78) (by decide +kernel) (by decide) ?_
    refine x_aload_n F 0 dX0_learnOfJob_84 rfl ?_
    refine x_aload_n F 1 dX0_learnOfJob_85 rfl ?_
    refine x_iload_n F 2 dX0_learnOfJob_86 rfl ?_
    refine x_iload_n F 3 dX0_learnOfJob_87 rfl ?_
    refine x_callV F [] ([]) [0, 1, 2, 3, 4, 5, 6, 7, 8, 9, 10, 11, 12, 13, 14, 15] [] (c_X0_setTraits l D cA ad M al ML i w hi hw) mwX0_setTraits wmX0_84 rfl (q0 := 0) rfl rfl rfl (Nat.le_of_ble_eq_true rfl) ⟨by decide, by decide⟩ ⟨by show _ ≤ 0; omega, by show _ ≤ 0; omega⟩ rfl rfl (by decide) (by decide) (by decide) dX0_learnOfJob_88 (fun r7 u8 hp9 => ?_)
    obtain ⟨rfl, rfl⟩ := hp9
    refine x_goto F 150 dX0_learnOfJob_91 (by decide) ?_
    exact x_vret F (traitF ML i w M) (⟨rfl, es.symm⟩) (rfl) (by omega) (by omega) dX0_learnOfJob_150
  · obtain ⟨b, hb16, eb⟩ := hb (by omega)
    have es : stepJ ML i w M = partF M w b := by unfold stepJ; rw [hk]; rw [eb, nI_clamp (by omega)]; rfl
    refine x_top (nI 4) (hk) ?_
    refine x_tableIn F 94 dX0_learnOfJob_6 (by decide +kernel) (by decide +kernel) (off := 88) (by decide +kernel) (by decide) ?_
    refine x_aload_n F 0 dX0_learnOfJob_94 rfl ?_
    refine x_iload_n F 3 dX0_learnOfJob_95 rfl ?_
    refine x_aload_n F 1 dX0_learnOfJob_96 rfl ?_
    refine x_get F inUX1 10 2 rfl rfl (by decide) wfX0_77 rfl dX0_learnOfJob_97 ?_
    refine x_iload_n F 2 dX0_learnOfJob_100 rfl ?_
    refine x_iald F 13 (k := i) rfl (by omega) (by decide) dX0_learnOfJob_101 ?_
    refine x_iconst F (nI 1) dX0_learnOfJob_102 (by decide +kernel) ?_
    rw [eb]
    refine x_callV F [] (wL cA al ML) [0, 1, 2, 3, 4, 5, 6, 7, 8, 9] [10, 11, 12, 13, 14, 15] (c_X0_setApart1 l D cA ad M w b hw hb16) mwX0_setApart wmX0_91 rfl (q0 := 0) rfl rfl rfl (Nat.le_of_ble_eq_true rfl) ⟨by decide, by decide⟩ ⟨by show _ ≤ 0; omega, by show _ ≤ 0; omega⟩ rfl rfl (by decide) (by decide) (by decide) dX0_learnOfJob_103 (fun r10 u11 hp12 => ?_)
    obtain ⟨rfl, rfl⟩ := hp12
    refine x_sub ((wF cA ad (partF M w b)) ++ (wL cA al ML)) [6, 7, 8, 9, 10, 11, 12, 13, 14, 15, 0, 1, 2, 3, 4, 5] rfl (by decide) ?_
    refine x_goto F 150 dX0_learnOfJob_106 (by decide) ?_
    exact x_vret F (partF M w b) (⟨rfl, es.symm⟩) (rfl) (by omega) (by omega) dX0_learnOfJob_150
  · obtain ⟨b, hb16, eb⟩ := hb (by omega)
    have es : stepJ ML i w M = unpartF M w b := by unfold stepJ; rw [hk]; rw [eb, nI_clamp (by omega)]; rfl
    refine x_top (nI 5) (hk) ?_
    refine x_tableIn F 109 dX0_learnOfJob_6 (by decide +kernel) (by decide +kernel) (off := 103) (by decide +kernel) (by decide) ?_
    refine x_aload_n F 0 dX0_learnOfJob_109 rfl ?_
    refine x_iload_n F 3 dX0_learnOfJob_110 rfl ?_
    refine x_aload_n F 1 dX0_learnOfJob_111 rfl ?_
    refine x_get F inUX1 10 2 rfl rfl (by decide) wfX0_77 rfl dX0_learnOfJob_112 ?_
    refine x_iload_n F 2 dX0_learnOfJob_115 rfl ?_
    refine x_iald F 13 (k := i) rfl (by omega) (by decide) dX0_learnOfJob_116 ?_
    refine x_iconst F (nI 0) dX0_learnOfJob_117 (by decide +kernel) ?_
    rw [eb]
    refine x_callV F [] (wL cA al ML) [0, 1, 2, 3, 4, 5, 6, 7, 8, 9] [10, 11, 12, 13, 14, 15] (c_X0_setApart0 l D cA ad M w b hw hb16) mwX0_setApart wmX0_91 rfl (q0 := 0) rfl rfl rfl (Nat.le_of_ble_eq_true rfl) ⟨by decide, by decide⟩ ⟨by show _ ≤ 0; omega, by show _ ≤ 0; omega⟩ rfl rfl (by decide) (by decide) (by decide) dX0_learnOfJob_118 (fun r13 u14 hp15 => ?_)
    obtain ⟨rfl, rfl⟩ := hp15
    refine x_sub ((wF cA ad (unpartF M w b)) ++ (wL cA al ML)) [6, 7, 8, 9, 10, 11, 12, 13, 14, 15, 0, 1, 2, 3, 4, 5] rfl (by decide) ?_
    refine x_goto F 150 dX0_learnOfJob_121 (by decide) ?_
    exact x_vret F (unpartF M w b) (⟨rfl, es.symm⟩) (rfl) (by omega) (by omega) dX0_learnOfJob_150
  · have es : stepJ ML i w M = st2 M 6 w (ML 2 i) := by unfold stepJ; rw [hk]; rfl
    refine x_top (nI 6) (hk) ?_
    refine x_tableIn F 124 dX0_learnOfJob_6 (by decide +kernel) (by decide +kernel) (off := 118) (by decide +kernel) (by decide) ?_
    refine x_aload_n F 0 dX0_learnOfJob_124 rfl ?_
    refine x_get F inUX0 0 6 rfl rfl (by decide) wfX0_25 rfl dX0_learnOfJob_125 ?_
    refine x_iload_n F 3 dX0_learnOfJob_128 rfl ?_
    refine x_aload_n F 1 dX0_learnOfJob_129 rfl ?_
    refine x_get F inUX1 10 2 rfl rfl (by decide) wfX0_77 rfl dX0_learnOfJob_130 ?_
    refine x_iload_n F 2 dX0_learnOfJob_133 rfl ?_
    refine x_iald F 13 (k := i) rfl (by omega) (by decide) dX0_learnOfJob_134 ?_
    refine x_iast F 5 (k := w) ((wF cA ad (st2 M 6 w (ML 2 i))) ++ (wL cA al ML)) rfl (by omega) (by decide) rfl dX0_learnOfJob_135 ?_
    refine x_goto F 150 dX0_learnOfJob_136 (by decide) ?_
    exact x_vret F (st2 M 6 w (ML 2 i)) (⟨rfl, es.symm⟩) (rfl) (by omega) (by omega) dX0_learnOfJob_150
  · have es : stepJ ML i w M = st2 M 6 w (-2) := by unfold stepJ; rw [hk]; rfl
    refine x_top (nI 7) (hk) ?_
    refine x_tableIn F 139 dX0_learnOfJob_6 (by decide +kernel) (by decide +kernel) (off := 133) (by decide +kernel) (by decide) ?_
    refine x_aload_n F 0 dX0_learnOfJob_139 rfl ?_
    refine x_get F inUX0 0 6 rfl rfl (by decide) wfX0_25 rfl dX0_learnOfJob_140 ?_
    refine x_iload_n F 3 dX0_learnOfJob_143 rfl ?_
    refine x_bipush F (-2) dX0_learnOfJob_144 (by decide +kernel) ?_
    refine x_iast F 5 (k := w) ((wF cA ad (st2 M 6 w (-2))) ++ (wL cA al ML)) rfl (by omega) (by decide) rfl dX0_learnOfJob_146 ?_
    refine x_goto F 150 dX0_learnOfJob_147 (by decide) ?_
    exact x_vret F (st2 M 6 w (-2)) (⟨rfl, es.symm⟩) (rfl) (by omega) (by omega) dX0_learnOfJob_150

set_option maxHeartbeats 4000000 in
set_option maxRecDepth 100000 in
theorem c_X0_learn (l : Launch) (D : va_G) (cA : Nat → ClassId) (ad : Nat → Nat) (M : Nat → Nat → Int32) (al : Nat → Nat) (ML : Nat → Nat → Int32) (i : Nat) (hi : i < 120) (hw : wfE ML i) : Cg l D cA yX0_learn cX0_learn 3 none 2 0 0 ([.ref (ad 100), .ref (al 100), .int (nI i)] : List Value) ((wF cA ad M) ++ (wL cA al ML)) (fun (r : Option Value) (u : Nat → Nat → Int32) => r = none ∧ u = st2 (stepF ML i M) 0 0 (nI (i + 1))) (fun u : Nat → Nat → Int32 => (wF cA ad u) ++ (wL cA al ML)) := by
  refine x_met (by decide +kernel) rfl (Nat.le_of_ble_eq_true rfl) ?_
  intro xp xe xs xm xbl xme xco F hnm
  refine x_lv [(0, .ref (ad 100)), (1, .ref (al 100)), (2, .int (nI i))] [0, 1, 2] rfl ?_
  obtain ⟨k, w, hk, ew, hk8, h3, hn3, h45, -, -⟩ := hw
  have hw16 : w < 16 := by
    by_cases h : k = 3
    · have := (h3 h).1; omega
    · exact hn3 h
  have ewc : (ML 1 i).toNatClampNeg = w := by rw [ew]; exact nI_clamp (by omega)
  refine x_aload_n F 1 dX0_learn_0 rfl ?_
  refine x_get F inUX1 10 0 rfl rfl (by decide) wfX0_71 rfl dX0_learn_1 ?_
  refine x_iload_n F 2 dX0_learn_4 rfl ?_
  refine x_iald F 11 (k := i) rfl (by omega) (by decide) dX0_learn_5 ?_
  rw [hk]
  refine x_iconst F (nI 3) dX0_learn_6 (by decide +kernel) ?_
  refine x_icmp_ne F 30 dX0_learn_7 (by decide) (fun h7 => ?_) (fun h7 => ?_)
  · have h7n : ¬ k = 3 := fun z => h7 ((nI_eq (by omega) (by decide)).mpr z)
    have es : stepF ML i M = stepJ ML i w M := by unfold stepF; rw [ewc, if_neg (by rw [hk]; exact h7)]
    refine x_aload_n F 0 dX0_learn_30 rfl ?_
    refine x_aload_n F 1 dX0_learn_31 rfl ?_
    refine x_iload_n F 2 dX0_learn_32 rfl ?_
    refine x_aload_n F 1 dX0_learn_33 rfl ?_
    refine x_get F inUX1 10 1 rfl rfl (by decide) wfX0_74 rfl dX0_learn_34 ?_
    refine x_iload_n F 2 dX0_learn_37 rfl ?_
    refine x_iald F 12 (k := i) rfl (by omega) (by decide) dX0_learn_38 ?_
    rw [ew]
    refine x_callV F [] ([]) [0, 1, 2, 3, 4, 5, 6, 7, 8, 9, 10, 11, 12, 13, 14, 15] [] (c_X0_learnOfJob l D cA ad M al ML i k w hi hw16 hk hk8 h7n h45) mwX0_learnOfJob wmX0_80 rfl (q0 := 0) rfl rfl rfl (Nat.le_of_ble_eq_true rfl) ⟨by decide, by decide⟩ ⟨by show _ ≤ 0; omega, by show _ ≤ 0; omega⟩ rfl rfl (by decide) (by decide) (by decide) dX0_learn_39 (fun r1 u2 hp3 => ?_)
    obtain ⟨rfl, rfl⟩ := hp3
    refine x_aload_n F 0 dX0_learn_42 rfl ?_
    refine x_iload_n F 2 dX0_learn_43 rfl ?_
    refine x_iconst F (nI 1) dX0_learn_44 (by decide +kernel) ?_
    refine x_iadd F (nI (i + 1)) dX0_learn_45 (nI_add _ _) ?_
    refine x_put F inUX0 tyX0_ok nmX0 0 0 ((wF cA ad (st2 (stepJ ML i w M) 0 0 (nI (i + 1)))) ++ (wL cA al ML)) rfl rfl (by decide) wfX0_43 rfl rfl rfl rfl (Nat.le_of_ble_eq_true rfl) rfl dX0_learn_46 ?_
    exact x_vret F (st2 (stepJ ML i w M) 0 0 (nI (i + 1))) (⟨rfl, by rw [es]⟩) (rfl) (by omega) (by omega) dX0_learn_49
  · have h7n : k = 3 := (nI_eq (by omega) (by decide)).mp h7
    have es : stepF ML i M = st2 M 8 w (ML 2 i) := by unfold stepF; rw [ewc, if_pos (by rw [hk]; exact h7)]
    have hw6 := (h3 h7n).1
    refine x_aload_n F 0 dX0_learn_10 rfl ?_
    refine x_get F inUX0 0 8 rfl rfl (by decide) wfX0_31 rfl dX0_learn_11 ?_
    refine x_aload_n F 1 dX0_learn_14 rfl ?_
    refine x_get F inUX1 10 1 rfl rfl (by decide) wfX0_74 rfl dX0_learn_15 ?_
    refine x_iload_n F 2 dX0_learn_18 rfl ?_
    refine x_iald F 12 (k := i) rfl (by omega) (by decide) dX0_learn_19 ?_
    rw [ew]
    refine x_aload_n F 1 dX0_learn_20 rfl ?_
    refine x_get F inUX1 10 2 rfl rfl (by decide) wfX0_77 rfl dX0_learn_21 ?_
    refine x_iload_n F 2 dX0_learn_24 rfl ?_
    refine x_iald F 13 (k := i) rfl (by omega) (by decide) dX0_learn_25 ?_
    refine x_iast F 7 (k := w) ((wF cA ad (st2 M 8 w (ML 2 i))) ++ (wL cA al ML)) rfl (by omega) (by decide) rfl dX0_learn_26 ?_
    refine x_goto F 42 dX0_learn_27 (by decide) ?_
    refine x_aload_n F 0 dX0_learn_42 rfl ?_
    refine x_iload_n F 2 dX0_learn_43 rfl ?_
    refine x_iconst F (nI 1) dX0_learn_44 (by decide +kernel) ?_
    refine x_iadd F (nI (i + 1)) dX0_learn_45 (nI_add _ _) ?_
    refine x_put F inUX0 tyX0_ok nmX0 0 0 ((wF cA ad (st2 (st2 M 8 w (ML 2 i)) 0 0 (nI (i + 1)))) ++ (wL cA al ML)) rfl rfl (by decide) wfX0_43 rfl rfl rfl rfl (Nat.le_of_ble_eq_true rfl) rfl dX0_learn_46 ?_
    exact x_vret F (st2 (st2 M 8 w (ML 2 i)) 0 0 (nI (i + 1))) (⟨rfl, by rw [es]⟩) (rfl) (by omega) (by omega) dX0_learn_49

theorem itF_0 (G : Nat → Nat → Int32) (a : Nat) (M : Nat → Nat → Int32) : itF G a 0 M = M := rfl
theorem itF_s (G : Nat → Nat → Int32) (a c : Nat) (M : Nat → Nat → Int32) : st2 (stepF G (a + c) (itF G a c M)) 0 0 (nI (a + c + 1)) = itF G a (c + 1) M := rfl
set_option maxHeartbeats 4000000 in
set_option maxRecDepth 100000 in
theorem c_X0_become (l : Launch) (D : va_G) (cA : Nat → ClassId) (ad : Nat → Nat) (M : Nat → Nat → Int32) (al : Nat → Nat) (ML : Nat → Nat → Int32) (n k cnt : Nat) (hc : ML 5 0 = nI cnt) (hcn : cnt ≤ 120) (hnc : n ≤ cnt) (hk : M 0 0 = nI k) (hkc : k ≤ cnt) (hwf : ∀ i, i < cnt → wfE ML i) : Cg l D cA yX0_become cX0_become 5 none 3 0 0 ([.ref (ad 100), .ref (al 100), .int (nI n)] : List Value) ((wF cA ad M) ++ (wL cA al ML)) (fun (r : Option Value) (u : Nat → Nat → Int32) => r = none ∧ u = becF ML k n M) (fun u : Nat → Nat → Int32 => (wF cA ad u) ++ (wL cA al ML)) := by
  refine x_met (by decide +kernel) rfl (Nat.le_of_ble_eq_true rfl) ?_
  intro xp xe xs xm xbl xme xco F hnm
  refine x_lv [(0, .ref (ad 100)), (1, .ref (al 100)), (2, .int (nI n))] [0, 1, 2] rfl ?_
  refine x_iload_n F 2 dX0_become_0 rfl ?_
  refine x_aload_n F 0 dX0_become_1 rfl ?_
  refine x_get F inUX0 0 0 rfl rfl (by decide) wfX0_43 rfl dX0_become_2 ?_
  rw [hk]
  refine x_icmp_ge F 12 dX0_become_5 (by decide) (fun h5 => ?_) (fun h5 => ?_)
  · have h5n : k ≤ n := (nI_leI (by omega) (by omega)).mp h5
    have eb : becF ML k n M = itF ML k (n - k) M := by unfold becF; rw [if_neg (by omega)]
    refine x_iload_n F 2 dX0_become_12 rfl ?_
    refine x_aload_n F 1 dX0_become_13 rfl ?_
    refine x_get F inUX1 10 5 rfl rfl (by decide) wfX0_56 rfl dX0_become_14 ?_
    rw [hc]
    refine x_mmin F (if (nI cnt) < (nI n) then (nI cnt) else (nI n)) wmX0_61 (by decide) (Nat.le_of_ble_eq_true rfl) (by show _ ≤ 0; omega) (by show _ ≤ 0; omega) rfl dX0_become_17 ?_
    rw [if_neg (show ¬ nI cnt < nI n from nI_nlt hnc (by omega))]
    refine x_istore_n F [(3, .int (nI n)), (0, .ref (ad 100)), (1, .ref (al 100)), (2, .int (nI n))] dX0_become_20 (by decide) rfl ?_
    refine x_aload_n F 1 dX0_become_21 rfl ?_
    refine x_get F inUX0 0 0 rfl rfl (by decide) wfX0_43 rfl dX0_become_22 ?_
    rw [hk]
    refine x_istore F [(4, .int (nI k)), (3, .int (nI n)), (0, .ref (ad 100)), (1, .ref (al 100)), (2, .int (nI n))] dX0_become_25 (by decide) rfl ?_
    refine x_ws ((wF cA ad (itF ML k 0 M)) ++ (wL cA al ML)) rfl ?_
    refine x_lv [(0, .ref (ad 100)), (1, .ref (al 100)), (2, .int (nI n)), (3, .int (nI n)), (4, .int (nI k))] [2, 3, 4, 1, 0] rfl ?_
    refine x_lv [(0, .ref (ad 100)), (1, .ref (al 100)), (2, .int (nI n)), (3, .int (nI n)), (4, .int (nI (k + 0)))] [0, 1, 2, 3, 4] (by rw [Nat.add_zero]; rfl) ?_
    have loop27 : ∀ (nn27 : Nat) (c : Nat), (k + c ≤ n) → (n - (k + c) < nn27) → Wx xp l xe (rmL 3 0 0) xs xm ([.ref (ad 100), .ref (al 100), .int (nI n)] : List Value).toArray xbl xme xco 0 0 (xQ xbl D ((wF cA ad M) ++ (wL cA al ML)) xs ([.ref (ad 100), .ref (al 100), .int (nI n)] : List Value).toArray 0 0 (fun (r : Option Value) (u : Nat → Nat → Int32) => r = none ∧ u = becF ML k n M) (fun u : Nat → Nat → Int32 => (wF cA ad u) ++ (wL cA al ML))) 5 D (va_A ((wF cA ad M) ++ (wL cA al ML)) xs.heap.size) 27 [(0, .ref (ad 100)), (1, .ref (al 100)), (2, .int (nI n)), (3, .int (nI n)), (4, .int (nI (k + c)))] [] ((wF cA ad (itF ML k c M)) ++ (wL cA al ML)) := by
      intro nn27
      induction nn27 with
      | zero =>
        intro c hcc hm27
        exact absurd hm27 (Nat.not_lt_zero _)
      | succ nn27 ih27 =>
        intro c hcc hm27
        refine x_iload F 4 dX0_become_27 rfl ?_
        refine x_iload_n F 3 dX0_become_29 rfl ?_
        refine x_icmp_ge F 46 dX0_become_30 (by decide) (fun h30 => ?_) (fun h30 => ?_)
        · have h30n : n ≤ (k + c) := (nI_leI (by omega) (by omega)).mp h30
          obtain rfl : n - k = c := by omega
          exact x_vret F (itF ML k (n - k) M) (⟨rfl, eb.symm⟩) (rfl) (by omega) (by omega) dX0_become_46
        · have h30n : ¬ n ≤ (k + c) := fun z => h30 ((nI_leI (by omega) (by omega)).mpr z)
          refine x_aload_n F 0 dX0_become_33 rfl ?_
          refine x_aload_n F 1 dX0_become_34 rfl ?_
          refine x_iload F 4 dX0_become_35 rfl ?_
          refine x_callV F [] ([]) [0, 1, 2, 3, 4, 5, 6, 7, 8, 9, 10, 11, 12, 13, 14, 15] [] (c_X0_learn l D cA ad (itF ML k c M) al ML (k + c) (by omega) (hwf _ (by omega))) mwX0_learn wmX0_67 rfl (q0 := 0) rfl rfl rfl (Nat.le_of_ble_eq_true rfl) ⟨by decide, by decide⟩ ⟨by show _ ≤ 0; omega, by show _ ≤ 0; omega⟩ rfl rfl (by decide) (by decide) (by decide) dX0_become_37 (fun r1 u2 hp3 => ?_)
          obtain ⟨rfl, rfl⟩ := hp3
          refine x_iinc F (nI (k + c + 1)) 4 [(4, .int (nI (k + c + 1))), (0, .ref (ad 100)), (1, .ref (al 100)), (2, .int (nI n)), (3, .int (nI n))] dX0_become_40 rfl ((nI_add (k + c) 1)) (by decide) rfl ?_
          refine x_goto F 27 dX0_become_43 (by decide) ?_
          refine x_ws ((wF cA ad (itF ML k (c + 1) M)) ++ (wL cA al ML)) rfl ?_
          refine x_lv [(0, .ref (ad 100)), (1, .ref (al 100)), (2, .int (nI n)), (3, .int (nI n)), (4, .int (nI (k + c + 1)))] [1, 2, 3, 4, 0] rfl ?_
          exact ih27 (c + 1) (by omega) (by omega)
    exact loop27 _ 0 (by omega) (Nat.lt_succ_self _)
  · have h5n : ¬ k ≤ n := fun z => h5 ((nI_leI (by omega) (by omega)).mpr z)
    have eb : becF ML k n M = itF ML 0 n (clr M) := by unfold becF; rw [if_pos (by omega)]
    refine x_aload_n F 0 dX0_become_8 rfl ?_
    refine x_callV F [] (wL cA al ML) [0, 1, 2, 3, 4, 5, 6, 7, 8, 9] [10, 11, 12, 13, 14, 15] (c_X0_clear l D cA ad M) mwX0_clear wmX0_40 rfl (q0 := 0) rfl rfl rfl (Nat.le_of_ble_eq_true rfl) ⟨by decide, by decide⟩ ⟨by show _ ≤ 0; omega, by show _ ≤ 0; omega⟩ rfl rfl (by decide) (by decide) (by decide) dX0_become_9 (fun r4 u5 hp6 => ?_)
    obtain ⟨rfl, rfl⟩ := hp6
    refine x_sub ((wF cA ad (clr M)) ++ (wL cA al ML)) [6, 7, 8, 9, 10, 11, 12, 13, 14, 15, 0, 1, 2, 3, 4, 5] rfl (by decide) ?_
    refine x_iload_n F 2 dX0_become_12 rfl ?_
    refine x_aload_n F 1 dX0_become_13 rfl ?_
    refine x_get F inUX1 10 5 rfl rfl (by decide) wfX0_56 rfl dX0_become_14 ?_
    rw [hc]
    refine x_mmin F (if (nI cnt) < (nI n) then (nI cnt) else (nI n)) wmX0_61 (by decide) (Nat.le_of_ble_eq_true rfl) (by show _ ≤ 0; omega) (by show _ ≤ 0; omega) rfl dX0_become_17 ?_
    rw [if_neg (show ¬ nI cnt < nI n from nI_nlt hnc (by omega))]
    refine x_istore_n F [(3, .int (nI n)), (0, .ref (ad 100)), (1, .ref (al 100)), (2, .int (nI n))] dX0_become_20 (by decide) rfl ?_
    refine x_aload_n F 1 dX0_become_21 rfl ?_
    refine x_get F inUX0 0 0 rfl rfl (by decide) wfX0_43 rfl dX0_become_22 ?_
    rw [show clr M 0 0 = nI 0 from rfl]
    refine x_istore F [(4, .int (nI 0)), (3, .int (nI n)), (0, .ref (ad 100)), (1, .ref (al 100)), (2, .int (nI n))] dX0_become_25 (by decide) rfl ?_
    refine x_ws ((wF cA ad (itF ML 0 0 (clr M))) ++ (wL cA al ML)) rfl ?_
    refine x_lv [(0, .ref (ad 100)), (1, .ref (al 100)), (2, .int (nI n)), (3, .int (nI n)), (4, .int (nI 0))] [2, 3, 4, 1, 0] rfl ?_
    refine x_lv [(0, .ref (ad 100)), (1, .ref (al 100)), (2, .int (nI n)), (3, .int (nI n)), (4, .int (nI (0 + 0)))] [0, 1, 2, 3, 4] (by rw [Nat.add_zero]; rfl) ?_
    have loop27 : ∀ (nn27 : Nat) (c : Nat), (0 + c ≤ n) → (n - (0 + c) < nn27) → Wx xp l xe (rmL 3 0 0) xs xm ([.ref (ad 100), .ref (al 100), .int (nI n)] : List Value).toArray xbl xme xco 0 0 (xQ xbl D ((wF cA ad M) ++ (wL cA al ML)) xs ([.ref (ad 100), .ref (al 100), .int (nI n)] : List Value).toArray 0 0 (fun (r : Option Value) (u : Nat → Nat → Int32) => r = none ∧ u = becF ML k n M) (fun u : Nat → Nat → Int32 => (wF cA ad u) ++ (wL cA al ML))) 5 D (va_A ((wF cA ad M) ++ (wL cA al ML)) xs.heap.size) 27 [(0, .ref (ad 100)), (1, .ref (al 100)), (2, .int (nI n)), (3, .int (nI n)), (4, .int (nI (0 + c)))] [] ((wF cA ad (itF ML 0 c (clr M))) ++ (wL cA al ML)) := by
      intro nn27
      induction nn27 with
      | zero =>
        intro c hcc hm27
        exact absurd hm27 (Nat.not_lt_zero _)
      | succ nn27 ih27 =>
        intro c hcc hm27
        refine x_iload F 4 dX0_become_27 rfl ?_
        refine x_iload_n F 3 dX0_become_29 rfl ?_
        refine x_icmp_ge F 46 dX0_become_30 (by decide) (fun h30 => ?_) (fun h30 => ?_)
        · have h30n : n ≤ (0 + c) := (nI_leI (by omega) (by omega)).mp h30
          obtain rfl : n = c := by omega
          exact x_vret F (itF ML 0 (n) (clr M)) (⟨rfl, eb.symm⟩) (rfl) (by omega) (by omega) dX0_become_46
        · have h30n : ¬ n ≤ (0 + c) := fun z => h30 ((nI_leI (by omega) (by omega)).mpr z)
          refine x_aload_n F 0 dX0_become_33 rfl ?_
          refine x_aload_n F 1 dX0_become_34 rfl ?_
          refine x_iload F 4 dX0_become_35 rfl ?_
          refine x_callV F [] ([]) [0, 1, 2, 3, 4, 5, 6, 7, 8, 9, 10, 11, 12, 13, 14, 15] [] (c_X0_learn l D cA ad (itF ML 0 c (clr M)) al ML (0 + c) (by omega) (hwf _ (by omega))) mwX0_learn wmX0_67 rfl (q0 := 0) rfl rfl rfl (Nat.le_of_ble_eq_true rfl) ⟨by decide, by decide⟩ ⟨by show _ ≤ 0; omega, by show _ ≤ 0; omega⟩ rfl rfl (by decide) (by decide) (by decide) dX0_become_37 (fun r7 u8 hp9 => ?_)
          obtain ⟨rfl, rfl⟩ := hp9
          refine x_iinc F (nI (0 + c + 1)) 4 [(4, .int (nI (0 + c + 1))), (0, .ref (ad 100)), (1, .ref (al 100)), (2, .int (nI n)), (3, .int (nI n))] dX0_become_40 rfl ((nI_add (0 + c) 1)) (by decide) rfl ?_
          refine x_goto F 27 dX0_become_43 (by decide) ?_
          refine x_ws ((wF cA ad (itF ML 0 (c + 1) (clr M))) ++ (wL cA al ML)) rfl ?_
          refine x_lv [(0, .ref (ad 100)), (1, .ref (al 100)), (2, .int (nI n)), (3, .int (nI n)), (4, .int (nI (0 + c + 1)))] [1, 2, 3, 4, 0] rfl ?_
          exact ih27 (c + 1) (by omega) (by omega)
    exact loop27 _ 0 (by omega) (Nat.lt_succ_self _)

