/-! Facts: what reads, the score, the constructors; Log -/
theorem has_1 {M : Nat → Nat → Int32} {j : Nat} (hj : j ≤ 15) (h : ¬ M 2 j = 0) : bz ((nI 0 ≤ nI j ∧ nI j ≤ nI 15) ∧ ¬ M 2 (nI j).toNatClampNeg = 0) = nI 1 := bz_t ⟨wn_in hj (by decide), by rw [nI_clamp (by omega)]; exact h⟩
theorem has_2 {M : Nat → Nat → Int32} {j : Nat} (hj : j ≤ 15) (h : M 2 j = 0) : bz ((nI 0 ≤ nI j ∧ nI j ≤ nI 15) ∧ ¬ M 2 (nI j).toNatClampNeg = 0) = nI 0 := bz_f (fun z => z.2 (by rw [nI_clamp (by omega)]; exact h))
theorem has_3 {M : Nat → Nat → Int32} {x : Int32} (h : bz (nI 0 ≤ x ∧ x ≤ nI 15) = 0) : bz ((nI 0 ≤ x ∧ x ≤ nI 15) ∧ ¬ M 2 x.toNatClampNeg = 0) = nI 0 := bz_f (fun z => bz_0.mp h z.1)
set_option maxHeartbeats 4000000 in
set_option maxRecDepth 100000 in
theorem c_X0_has (l : Launch) (D : va_G) (cA : Nat → ClassId) (ad : Nat → Nat) (M : Nat → Nat → Int32) (p0 : Int32)  : Cr l D cA yX0_has cX0_has 2 (some .boolean) 1 ([.ref (ad 100), .int p0] : List Value) (wF cA ad M) (fun r : Option Value => r = some (.int (bz ((nI 0 ≤ p0 ∧ p0 ≤ nI 15) ∧ ¬ M 2 p0.toNatClampNeg = 0)))) := by
  refine x_met (by decide +kernel) rfl (Nat.le_of_ble_eq_true rfl) ?_
  intro xp xe xs xm xbl xme xco F hnm
  refine x_lv [(0, .ref (ad 100)), (1, .int p0)] [0, 1] rfl ?_
  refine x_iload_n F 1 dX0_has_0 rfl ?_
  refine x_iconst F (nI 0) dX0_has_1 (by decide +kernel) ?_
  refine x_bipush F (nI 15) dX0_has_2 (by decide +kernel) ?_
  refine x_callSNr F [] [] (c_X4_isWithin l D cA p0 (nI 0) (nI 15)) mwX4_isWithin F.2.1.2.1.2.1 rfl rfl (Nat.le_of_ble_eq_true rfl) ⟨by decide, by decide⟩ ⟨by show _ ≤ 0; omega, by show _ ≤ 0; omega⟩ rfl (by decide) dX0_has_4 (fun r1 hp2 => ?_)
  subst hp2
  refine x_if_eq F 23 dX0_has_7 (by decide) (fun h7 => ?_) (fun h7 => ?_)
  · refine x_iconst F (nI 0) dX0_has_23 (by decide +kernel) ?_
    exact x_zret F (by decide +kernel) () (by first | rw [has_1 hj h16] | rw [has_2 hj h16] | rw [has_3 h7]) (rfl) (by omega) (by omega) dX0_has_24
  · obtain ⟨j, hj, rfl⟩ := wn (n := 15) (by decide) (bz_n0.mp h7)
    refine x_aload_n F 0 dX0_has_10 rfl ?_
    refine x_get F inUX0 0 2 rfl rfl (by decide) wfX0_9 rfl dX0_has_11 ?_
    refine x_iload_n F 1 dX0_has_14 rfl ?_
    refine x_zald F 1 (k := j) rfl (by omega) (by decide) dX0_has_15 ?_
    refine x_if_eq F 23 dX0_has_16 (by decide) (fun h16 => ?_) (fun h16 => ?_)
    · refine x_iconst F (nI 0) dX0_has_23 (by decide +kernel) ?_
      exact x_zret F (by decide +kernel) () (by first | rw [has_1 hj h16] | rw [has_2 hj h16] | rw [has_3 h7]) (rfl) (by omega) (by omega) dX0_has_24
    · refine x_iconst F (nI 1) dX0_has_19 (by decide +kernel) ?_
      refine x_goto F 24 dX0_has_20 (by decide) ?_
      exact x_zret F (by decide +kernel) () (by first | rw [has_1 hj h16] | rw [has_2 hj h16] | rw [has_3 h7]) (rfl) (by omega) (by omega) dX0_has_24

set_option maxHeartbeats 4000000 in
set_option maxRecDepth 100000 in
theorem c_X0_areApart (l : Launch) (D : va_G) (cA : Nat → ClassId) (ad : Nat → Nat) (M : Nat → Nat → Int32) (a b : Nat) (ha : a < 16) : Cr l D cA yX0_areApart cX0_areApart 3 (some .boolean) 0 ([.ref (ad 100), .int (nI a), .int (nI b)] : List Value) (wF cA ad M) (fun r : Option Value => r = some (.int (bz (M 7 a >>> (nI b &&& 31) &&& nI 1 = nI 1)))) := by
  refine x_met (by decide +kernel) rfl (Nat.le_of_ble_eq_true rfl) ?_
  intro xp xe xs xm xbl xme xco F hnm
  refine x_lv [(0, .ref (ad 100)), (1, .int (nI a)), (2, .int (nI b))] [0, 1, 2] rfl ?_
  refine x_aload_n F 0 dX0_areApart_0 rfl ?_
  refine x_get F inUX0 0 7 rfl rfl (by decide) wfX0_28 rfl dX0_areApart_1 ?_
  refine x_iload_n F 1 dX0_areApart_4 rfl ?_
  refine x_iald F 6 (k := a) rfl (by omega) (by decide) dX0_areApart_5 ?_
  refine x_iload_n F 2 dX0_areApart_6 rfl ?_
  refine x_ishr F ((M 7 a) >>> ((nI b) &&& 31)) dX0_areApart_7 rfl ?_
  refine x_iconst F (nI 1) dX0_areApart_8 (by decide +kernel) ?_
  refine x_iand F (((M 7 a) >>> ((nI b) &&& 31)) &&& (nI 1)) dX0_areApart_9 rfl ?_
  refine x_iconst F (nI 1) dX0_areApart_10 (by decide +kernel) ?_
  refine x_icmp_ne F 18 dX0_areApart_11 (by decide) (fun h11 => ?_) (fun h11 => ?_)
  · refine x_iconst F (nI 0) dX0_areApart_18 (by decide +kernel) ?_
    exact x_zret F (by decide +kernel) () (by first | rw [bz_t h11]; rfl | rw [bz_f h11]; rfl) (rfl) (by omega) (by omega) dX0_areApart_19
  · refine x_iconst F (nI 1) dX0_areApart_14 (by decide +kernel) ?_
    refine x_goto F 19 dX0_areApart_15 (by decide) ?_
    exact x_zret F (by decide +kernel) () (by first | rw [bz_t h11]; rfl | rw [bz_f h11]; rfl) (rfl) (by omega) (by omega) dX0_areApart_19

set_option maxHeartbeats 4000000 in
set_option maxRecDepth 100000 in
theorem c_X0_countThere (l : Launch) (D : va_G) (cA : Nat → ClassId) (ad : Nat → Nat) (M : Nat → Nat → Int32)  : Cr l D cA yX0_countThere cX0_countThere 3 (some .int) 0 ([.ref (ad 100)] : List Value) (wF cA ad M) (fun r : Option Value => r = some (.int (nI (thc M 16)))) := by
  refine x_met (by decide +kernel) rfl (Nat.le_of_ble_eq_true rfl) ?_
  intro xp xe xs xm xbl xme xco F hnm
  refine x_lv [(0, .ref (ad 100))] [0] rfl ?_
  refine x_iconst F (nI 0) dX0_countThere_0 (by decide +kernel) ?_
  refine x_istore_n F [(1, .int (nI 0)), (0, .ref (ad 100))] dX0_countThere_1 (by decide) rfl ?_
  refine x_iconst F (nI 0) dX0_countThere_2 (by decide +kernel) ?_
  refine x_istore_n F [(2, .int (nI 0)), (1, .int (nI 0)), (0, .ref (ad 100))] dX0_countThere_3 (by decide) rfl ?_
  refine x_lv [(0, .ref (ad 100)), (1, .int (nI 0)), (2, .int (nI 0))] [2, 1, 0] rfl ?_
  have loop4 : ∀ (nn4 : Nat) (j : Nat) (k : Nat), (j ≤ 16) → (k = thc M j) → (16 - j < nn4) → Wx xp l xe (rmL 0 0 0) xs xm ([.ref (ad 100)] : List Value).toArray xbl xme xco 0 0 (xQ xbl D (wF cA ad M) xs ([.ref (ad 100)] : List Value).toArray 0 0 (fun (r : Option Value) (_ : Unit) => r = some (.int (nI (thc M 16)))) (fun _ : Unit => wF cA ad M)) 3 D (va_A (wF cA ad M) xs.heap.size) 4 [(0, .ref (ad 100)), (1, .int (nI k)), (2, .int (nI j))] [] (wF cA ad M) := by
    intro nn4
    induction nn4 with
    | zero =>
      intro j k hj ec hm4
      exact absurd hm4 (Nat.not_lt_zero _)
    | succ nn4 ih4 =>
      intro j k hj ec hm4
      refine x_iload_n F 2 dX0_countThere_4 rfl ?_
      refine x_bipush F (nI 16) dX0_countThere_5 (by decide +kernel) ?_
      refine x_icmp_ge F 28 dX0_countThere_7 (by decide) (fun h7 => ?_) (fun h7 => ?_)
      · have h7n : 16 ≤ j := (nI_leI (by decide) (by omega)).mp h7
        obtain rfl : 16 = j := by omega
        refine x_iload_n F 1 dX0_countThere_28 rfl ?_
        exact x_iret F () (by rw [ec]) (rfl) (by omega) (by omega) dX0_countThere_29
      · have h7n : ¬ 16 ≤ j := fun z => h7 ((nI_leI (by decide) (by omega)).mpr z)
        refine x_aload_n F 0 dX0_countThere_10 rfl ?_
        refine x_get F inUX0 0 2 rfl rfl (by decide) wfX0_9 rfl dX0_countThere_11 ?_
        refine x_iload_n F 2 dX0_countThere_14 rfl ?_
        refine x_zald F 1 (k := j) rfl (by omega) (by decide) dX0_countThere_15 ?_
        refine x_if_eq F 22 dX0_countThere_16 (by decide) (fun h16 => ?_) (fun h16 => ?_)
        · refine x_iinc F (nI (j + 1)) 2 [(2, .int (nI (j + 1))), (0, .ref (ad 100)), (1, .int (nI k))] dX0_countThere_22 rfl ((nI_add j 1)) (by decide) rfl ?_
          refine x_goto F 4 dX0_countThere_25 (by decide) ?_
          refine x_lv [(0, .ref (ad 100)), (1, .int (nI k)), (2, .int (nI (j + 1)))] [1, 2, 0] rfl ?_
          exact ih4 (j + 1) k (by omega) (by unfold thc; rw [if_pos h16]; exact ec) (by omega)
        · refine x_iinc F (nI (k + 1)) 1 [(1, .int (nI (k + 1))), (0, .ref (ad 100)), (2, .int (nI j))] dX0_countThere_19 rfl ((nI_add k 1)) (by decide) rfl ?_
          refine x_iinc F (nI (j + 1)) 2 [(2, .int (nI (j + 1))), (1, .int (nI (k + 1))), (0, .ref (ad 100))] dX0_countThere_22 rfl ((nI_add j 1)) (by decide) rfl ?_
          refine x_goto F 4 dX0_countThere_25 (by decide) ?_
          refine x_lv [(0, .ref (ad 100)), (1, .int (nI (k + 1))), (2, .int (nI (j + 1)))] [2, 1, 0] rfl ?_
          exact ih4 (j + 1) (k + 1) (by omega) (by unfold thc; rw [if_neg h16, ec]) (by omega)
  exact loop4 _ 0 0 (Nat.zero_le _) rfl (Nat.lt_succ_self _)

set_option maxHeartbeats 4000000 in
set_option maxRecDepth 100000 in
theorem c_X0_listMovable (l : Launch) (D : va_G) (cA : Nat → ClassId) (ad : Nat → Nat) (M : Nat → Nat → Int32) (q : Nat) (f : Nat → Int32)  : Cg l D cA yX0_listMovable cX0_listMovable 4 (some .int) 0 0 0 ([.ref (ad 100), .ref q] : List Value) ((wF cA ad M) ++ [(q, .inl (cA 0, 16, .inl f))]) (fun (r : Option Value) (u : Nat → Int32) => r = some (.int (nI (mvc M 16))) ∧ u = mvr M f 16) (fun u : Nat → Int32 => (wF cA ad M) ++ [(q, .inl (cA 0, 16, .inl u))]) := by
  refine x_met (by decide +kernel) rfl (Nat.le_of_ble_eq_true rfl) ?_
  intro xp xe xs xm xbl xme xco F hnm
  refine x_lv [(0, .ref (ad 100)), (1, .ref q)] [0, 1] rfl ?_
  refine x_iconst F (nI 0) dX0_listMovable_0 (by decide +kernel) ?_
  refine x_istore_n F [(2, .int (nI 0)), (0, .ref (ad 100)), (1, .ref q)] dX0_listMovable_1 (by decide) rfl ?_
  refine x_iconst F (nI 0) dX0_listMovable_2 (by decide +kernel) ?_
  refine x_istore_n F [(3, .int (nI 0)), (2, .int (nI 0)), (0, .ref (ad 100)), (1, .ref q)] dX0_listMovable_3 (by decide) rfl ?_
  refine x_lv [(0, .ref (ad 100)), (1, .ref q), (2, .int (nI 0)), (3, .int (nI 0))] [2, 3, 1, 0] rfl ?_
  have loop4 : ∀ (nn4 : Nat) (j : Nat) (k : Nat) (h : Nat → Int32), (j ≤ 16) → (k = mvc M j) → (h = mvr M f j) → (16 - j < nn4) → Wx xp l xe (rmL 0 0 0) xs xm ([.ref (ad 100), .ref q] : List Value).toArray xbl xme xco 0 0 (xQ xbl D ((wF cA ad M) ++ [(q, .inl (cA 0, 16, .inl f))]) xs ([.ref (ad 100), .ref q] : List Value).toArray 0 0 (fun (r : Option Value) (u : Nat → Int32) => r = some (.int (nI (mvc M 16))) ∧ u = mvr M f 16) (fun u : Nat → Int32 => (wF cA ad M) ++ [(q, .inl (cA 0, 16, .inl u))])) 4 D (va_A ((wF cA ad M) ++ [(q, .inl (cA 0, 16, .inl f))]) xs.heap.size) 4 [(0, .ref (ad 100)), (1, .ref q), (2, .int (nI k)), (3, .int (nI j))] [] ((wF cA ad M) ++ [(q, .inl (cA 0, 16, .inl h))]) := by
    intro nn4
    induction nn4 with
    | zero =>
      intro j k h hj ec ef hm4
      exact absurd hm4 (Nat.not_lt_zero _)
    | succ nn4 ih4 =>
      intro j k h hj ec ef hm4
      refine x_iload_n F 3 dX0_listMovable_4 rfl ?_
      refine x_bipush F (nI 16) dX0_listMovable_5 (by decide +kernel) ?_
      refine x_icmp_ge F 49 dX0_listMovable_7 (by decide) (fun h7 => ?_) (fun h7 => ?_)
      · have h7n : 16 ≤ j := (nI_leI (by decide) (by omega)).mp h7
        obtain rfl : 16 = j := by omega
        refine x_iload_n F 2 dX0_listMovable_49 rfl ?_
        exact x_iret F h (⟨by rw [ec], ef⟩) (rfl) (by omega) (by omega) dX0_listMovable_50
      · have h7n : ¬ 16 ≤ j := fun z => h7 ((nI_leI (by decide) (by omega)).mpr z)
        have hkj := mvc_le M j
        refine x_iload_n F 2 dX0_listMovable_10 rfl ?_
        refine x_aload_n F 1 dX0_listMovable_11 rfl ?_
        refine x_alen F 10 0 rfl rfl (nI 16) rfl dX0_listMovable_12 ?_
        refine x_icmp_ge F 49 dX0_listMovable_13 (by decide) (fun h13 => ?_) (fun h13 => ?_)
        · have h13n : 16 ≤ k := (nI_leI (by decide) (by omega)).mp h13
          exact absurd (mvc_le M j) (by omega)
        · have h13n : ¬ 16 ≤ k := fun z => h13 ((nI_leI (by decide) (by omega)).mpr z)
          refine x_aload_n F 0 dX0_listMovable_16 rfl ?_
          refine x_get F inUX0 0 2 rfl rfl (by decide) wfX0_9 rfl dX0_listMovable_17 ?_
          refine x_iload_n F 3 dX0_listMovable_20 rfl ?_
          refine x_zald F 1 (k := j) rfl (by omega) (by decide) dX0_listMovable_21 ?_
          refine x_if_eq F 43 dX0_listMovable_22 (by decide) (fun h22 => ?_) (fun h22 => ?_)
          · refine x_iinc F (nI (j + 1)) 3 [(3, .int (nI (j + 1))), (0, .ref (ad 100)), (1, .ref q), (2, .int (nI k))] dX0_listMovable_43 rfl ((nI_add j 1)) (by decide) rfl ?_
            refine x_goto F 4 dX0_listMovable_46 (by decide) ?_
            refine x_lv [(0, .ref (ad 100)), (1, .ref q), (2, .int (nI k)), (3, .int (nI (j + 1)))] [1, 2, 3, 0] rfl ?_
            exact ih4 (j + 1) k h (by omega) (by unfold mvc; rw [if_neg (fun z => z.1 h22), ec]) (by unfold mvr; rw [if_neg (fun z => z.1 h22), ef]) (by omega)
          · refine x_aload_n F 0 dX0_listMovable_25 rfl ?_
            refine x_get F inUX0 0 6 rfl rfl (by decide) wfX0_25 rfl dX0_listMovable_26 ?_
            refine x_iload_n F 3 dX0_listMovable_29 rfl ?_
            refine x_iald F 5 (k := j) rfl (by omega) (by decide) dX0_listMovable_30 ?_
            refine x_bipush F (-2) dX0_listMovable_31 (by decide +kernel) ?_
            refine x_icmp_ne F 43 dX0_listMovable_33 (by decide) (fun h33 => ?_) (fun h33 => ?_)
            · refine x_iinc F (nI (j + 1)) 3 [(3, .int (nI (j + 1))), (0, .ref (ad 100)), (1, .ref q), (2, .int (nI k))] dX0_listMovable_43 rfl ((nI_add j 1)) (by decide) rfl ?_
              refine x_goto F 4 dX0_listMovable_46 (by decide) ?_
              refine x_lv [(0, .ref (ad 100)), (1, .ref q), (2, .int (nI k)), (3, .int (nI (j + 1)))] [1, 2, 3, 0] rfl ?_
              exact ih4 (j + 1) k h (by omega) (by unfold mvc; rw [if_neg (fun z => h33 z.2), ec]) (by unfold mvr; rw [if_neg (fun z => h33 z.2), ef]) (by omega)
            · refine x_aload_n F 1 dX0_listMovable_36 rfl ?_
              refine x_iload_n F 2 dX0_listMovable_37 rfl ?_
              refine x_iload_n F 3 dX0_listMovable_38 rfl ?_
              refine x_iast F 10 (k := k) ((wF cA ad M) ++ [(q, .inl (cA 0, 16, .inl (upd h k (nI j))))]) rfl (by omega) (by decide) rfl dX0_listMovable_39 ?_
              refine x_iinc F (nI (k + 1)) 2 [(2, .int (nI (k + 1))), (0, .ref (ad 100)), (1, .ref q), (3, .int (nI j))] dX0_listMovable_40 rfl ((nI_add k 1)) (by decide) rfl ?_
              refine x_iinc F (nI (j + 1)) 3 [(3, .int (nI (j + 1))), (2, .int (nI (k + 1))), (0, .ref (ad 100)), (1, .ref q)] dX0_listMovable_43 rfl ((nI_add j 1)) (by decide) rfl ?_
              refine x_goto F 4 dX0_listMovable_46 (by decide) ?_
              refine x_lv [(0, .ref (ad 100)), (1, .ref q), (2, .int (nI (k + 1))), (3, .int (nI (j + 1)))] [2, 3, 1, 0] rfl ?_
              exact ih4 (j + 1) (k + 1) (upd h k (nI j)) (by omega) (by unfold mvc; rw [if_pos ⟨h22, h33⟩, ec]) (by unfold mvr; rw [if_pos ⟨h22, h33⟩, ef, ec]) (by omega)
  exact loop4 _ 0 0 f (Nat.zero_le _) rfl rfl (Nat.lt_succ_self _)

set_option maxHeartbeats 4000000 in
set_option maxRecDepth 100000 in
theorem c_X0_scoreOf (l : Launch) (D : va_G) (cA : Nat → ClassId) (ad : Nat → Nat) (M : Nat → Nat → Int32) (q : Nat) (pl : Nat → Int32)  : Cg l D cA yX0_scoreOf cX0_scoreOf 6 (some .long) 2 0 0 ([.ref (ad 100), .ref q] : List Value) ((wF cA ad M) ++ [(q, .inl (cA 0, 16, .inl pl))]) (fun (r : Option Value) (u : Nat → Nat → Int32) => r = some (.long (scL M pl)) ∧ u = scT M pl 16) (fun u : Nat → Nat → Int32 => (wF cA ad u) ++ [(q, .inl (cA 0, 16, .inl pl))]) := by
  refine x_met (by decide +kernel) rfl (Nat.le_of_ble_eq_true rfl) ?_
  intro xp xe xs xm xbl xme xco F hnm
  refine x_lv [(0, .ref (ad 100)), (1, .ref q)] [0, 1] rfl ?_
  refine x_aload_n F 0 dX0_scoreOf_0 rfl ?_
  refine x_get F inUX0 0 9 rfl rfl (by decide) wfX0_34 rfl dX0_scoreOf_1 ?_
  refine x_iconst F (nI 0) dX0_scoreOf_4 (by decide +kernel) ?_
  refine x_callS F [] ([0, 1, 2, 3, 4, 5, 6, 7, 9, 10].filterMap (fun i => ((wF cA ad M) ++ [(q, .inl (cA 0, 16, .inl pl))])[i]?)) [8] [0, 1, 2, 3, 4, 5, 6, 7, 9, 10] (c_J7_fill_53178 l D cA (ad 9) 6 (M 9) (nI 0) (by decide)) mwJ7_fill_53178 wmX0_50 rfl rfl (Nat.le_of_ble_eq_true rfl) ⟨by decide, by decide⟩ ⟨by show _ ≤ 0; omega, by show _ ≤ 0; omega⟩ rfl rfl (by decide) (by decide) (by decide) dX0_scoreOf_5 (fun r1 u2 hp3 => ?_)
  subst hp3
  refine x_sub ((wF cA ad (va_up M 9 (fl (M 9) 6 (nI 0)))) ++ [(q, .inl (cA 0, 16, .inl pl))]) [0, 1, 2, 3, 4, 5, 6, 7, 10, 8, 9] rfl (by decide) ?_
  refine x_aload_n F 0 dX0_scoreOf_8 rfl ?_
  refine x_get F inUX0 0 10 rfl rfl (by decide) wfX0_37 rfl dX0_scoreOf_9 ?_
  refine x_iconst F (nI 0) dX0_scoreOf_12 (by decide +kernel) ?_
  refine x_callS F [] ([0, 1, 2, 3, 4, 5, 6, 7, 8, 10].filterMap (fun i => ((wF cA ad (va_up M 9 (fl (M 9) 6 (nI 0)))) ++ [(q, .inl (cA 0, 16, .inl pl))])[i]?)) [9] [0, 1, 2, 3, 4, 5, 6, 7, 8, 10] (c_J7_fill_53178 l D cA (ad 10) 6 ((va_up M 9 (fl (M 9) 6 (nI 0))) 10) (nI 0) (by decide)) mwJ7_fill_53178 wmX0_50 rfl rfl (Nat.le_of_ble_eq_true rfl) ⟨by decide, by decide⟩ ⟨by show _ ≤ 0; omega, by show _ ≤ 0; omega⟩ rfl rfl (by decide) (by decide) (by decide) dX0_scoreOf_13 (fun r4 u5 hp6 => ?_)
  subst hp6
  refine x_sub ((wF cA ad (va_up (va_up M 9 (fl (M 9) 6 (nI 0))) 10 (fl ((va_up M 9 (fl (M 9) 6 (nI 0))) 10) 6 (nI 0)))) ++ [(q, .inl (cA 0, 16, .inl pl))]) [0, 1, 2, 3, 4, 5, 6, 7, 8, 10, 9] rfl (by decide) ?_
  refine x_iconst F (nI 0) dX0_scoreOf_16 (by decide +kernel) ?_
  refine x_istore_n F [(2, .int (nI 0)), (0, .ref (ad 100)), (1, .ref q)] dX0_scoreOf_17 (by decide) rfl ?_
  refine x_iconst F (nI 0) dX0_scoreOf_18 (by decide +kernel) ?_
  refine x_istore_n F [(3, .int (nI 0)), (2, .int (nI 0)), (0, .ref (ad 100)), (1, .ref q)] dX0_scoreOf_19 (by decide) rfl ?_
  refine x_iconst F (nI 0) dX0_scoreOf_20 (by decide +kernel) ?_
  refine x_istore F [(4, .int (nI 0)), (3, .int (nI 0)), (2, .int (nI 0)), (0, .ref (ad 100)), (1, .ref q)] dX0_scoreOf_21 (by decide) rfl ?_
  refine x_lv [(0, .ref (ad 100)), (1, .ref q), (2, .int (nI 0)), (3, .int (nI 0)), (4, .int (nI 0))] [3, 4, 2, 1, 0] rfl ?_
  have loop23 : ∀ (nn23 : Nat) (j : Nat) (T : Nat → Nat → Int32) (h : Int32) (f : Int32), (j ≤ 16) → (T = scT M pl j) → (h = hdI M pl j) → (f = sfI M pl j) → (16 - j < nn23) → Wx xp l xe (rmL 2 0 0) xs xm ([.ref (ad 100), .ref q] : List Value).toArray xbl xme xco 0 0 (xQ xbl D ((wF cA ad M) ++ [(q, .inl (cA 0, 16, .inl pl))]) xs ([.ref (ad 100), .ref q] : List Value).toArray 0 0 (fun (r : Option Value) (u : Nat → Nat → Int32) => r = some (.long (scL M pl)) ∧ u = scT M pl 16) (fun u : Nat → Nat → Int32 => (wF cA ad u) ++ [(q, .inl (cA 0, 16, .inl pl))])) 6 D (va_A ((wF cA ad M) ++ [(q, .inl (cA 0, 16, .inl pl))]) xs.heap.size) 23 [(0, .ref (ad 100)), (1, .ref q), (2, .int h), (3, .int f), (4, .int (nI j))] [] ((wF cA ad T) ++ [(q, .inl (cA 0, 16, .inl pl))]) := by
    intro nn23
    induction nn23 with
    | zero =>
      intro j T h f hj eT eh es hm23
      exact absurd hm23 (Nat.not_lt_zero _)
    | succ nn23 ih23 =>
      intro j T h f hj eT eh es hm23
      refine x_iload F 4 dX0_scoreOf_23 rfl ?_
      refine x_bipush F (nI 16) dX0_scoreOf_25 (by decide +kernel) ?_
      refine x_icmp_ge F 167 dX0_scoreOf_27 (by decide) (fun h27 => ?_) (fun h27 => ?_)
      · have h27n : 16 ≤ j := (nI_leI (by decide) (by omega)).mp h27
        obtain rfl : 16 = j := by omega
        refine x_iconst F (nI 0) dX0_scoreOf_167 (by decide +kernel) ?_
        refine x_istore F [(4, .int (nI 0)), (0, .ref (ad 100)), (1, .ref q), (2, .int h), (3, .int f)] dX0_scoreOf_168 (by decide) rfl ?_
        refine x_lv [(0, .ref (ad 100)), (1, .ref q), (2, .int h), (3, .int f), (4, .int (nI 0))] [1, 2, 3, 4, 0] rfl ?_
        have loop170 : ∀ (nn170 : Nat) (i : Nat) (x : Int32), (i ≤ 6) → (x = hdO T h i) → (6 - i < nn170) → Wx xp l xe (rmL 2 0 0) xs xm ([.ref (ad 100), .ref q] : List Value).toArray xbl xme xco 0 0 (xQ xbl D ((wF cA ad M) ++ [(q, .inl (cA 0, 16, .inl pl))]) xs ([.ref (ad 100), .ref q] : List Value).toArray 0 0 (fun (r : Option Value) (u : Nat → Nat → Int32) => r = some (.long (scL M pl)) ∧ u = scT M pl 16) (fun u : Nat → Nat → Int32 => (wF cA ad u) ++ [(q, .inl (cA 0, 16, .inl pl))])) 6 D (va_A ((wF cA ad M) ++ [(q, .inl (cA 0, 16, .inl pl))]) xs.heap.size) 170 [(0, .ref (ad 100)), (1, .ref q), (2, .int x), (3, .int f), (4, .int (nI i))] [] ((wF cA ad T) ++ [(q, .inl (cA 0, 16, .inl pl))]) := by
          intro nn170
          induction nn170 with
          | zero =>
            intro i x hi ex hm170
            exact absurd hm170 (Nat.not_lt_zero _)
          | succ nn170 ih170 =>
            intro i x hi ex hm170
            refine x_iload F 4 dX0_scoreOf_170 rfl ?_
            refine x_bipush F (nI 6) dX0_scoreOf_172 (by decide +kernel) ?_
            refine x_icmp_ge F 205 dX0_scoreOf_174 (by decide) (fun h174 => ?_) (fun h174 => ?_)
            · have h174n : 6 ≤ i := (nI_leI (by decide) (by omega)).mp h174
              obtain rfl : 6 = i := by omega
              refine x_iload_n F 2 dX0_scoreOf_205 rfl ?_
              refine x_iload_n F 3 dX0_scoreOf_206 rfl ?_
              refine x_callSNr F [] [] (c_X4_scoreFrom l D cA x f) mwX4_scoreFrom F.2.1.2.1.2.2.2.1 rfl rfl (Nat.le_of_ble_eq_true rfl) ⟨by decide, by decide⟩ ⟨by show _ ≤ 0; omega, by show _ ≤ 0; omega⟩ rfl (by decide) dX0_scoreOf_207 (fun r7 hp8 => ?_)
              subst hp8
              exact x_lret F T (⟨by rw [ex, eh, es, eT]; rfl, eT⟩) (rfl) (by omega) (by omega) dX0_scoreOf_210
            · have h174n : ¬ 6 ≤ i := fun z => h174 ((nI_leI (by decide) (by omega)).mpr z)
              refine x_iload_n F 2 dX0_scoreOf_177 rfl ?_
              refine x_iconst F (nI 0) dX0_scoreOf_178 (by decide +kernel) ?_
              refine x_aload_n F 0 dX0_scoreOf_179 rfl ?_
              refine x_get F inUX0 0 9 rfl rfl (by decide) wfX0_34 rfl dX0_scoreOf_180 ?_
              refine x_iload F 4 dX0_scoreOf_183 rfl ?_
              refine x_iald F 8 (k := i) rfl (by omega) (by decide) dX0_scoreOf_185 ?_
              refine x_aload_n F 0 dX0_scoreOf_186 rfl ?_
              refine x_get F inUX0 0 8 rfl rfl (by decide) wfX0_31 rfl dX0_scoreOf_187 ?_
              refine x_iload F 4 dX0_scoreOf_190 rfl ?_
              refine x_iald F 7 (k := i) rfl (by omega) (by decide) dX0_scoreOf_192 ?_
              refine x_isub F ((T 9 i) - (T 8 i)) dX0_scoreOf_193 rfl ?_
              refine x_mmax F (if (nI 0) < ((T 9 i) - (T 8 i)) then ((T 9 i) - (T 8 i)) else (nI 0)) wmX0_118 (by decide) (Nat.le_of_ble_eq_true rfl) (by show _ ≤ 0; omega) (by show _ ≤ 0; omega) rfl dX0_scoreOf_194 ?_
              refine x_iadd F (x + (if (nI 0) < ((T 9 i) - (T 8 i)) then ((T 9 i) - (T 8 i)) else (nI 0))) dX0_scoreOf_197 rfl ?_
              refine x_istore_n F [(2, .int (x + (if (nI 0) < ((T 9 i) - (T 8 i)) then ((T 9 i) - (T 8 i)) else (nI 0)))), (0, .ref (ad 100)), (1, .ref q), (3, .int f), (4, .int (nI i))] dX0_scoreOf_198 (by decide) rfl ?_
              refine x_iinc F (nI (i + 1)) 4 [(4, .int (nI (i + 1))), (2, .int (x + (if (nI 0) < ((T 9 i) - (T 8 i)) then ((T 9 i) - (T 8 i)) else (nI 0)))), (0, .ref (ad 100)), (1, .ref q), (3, .int f)] dX0_scoreOf_199 rfl ((nI_add i 1)) (by decide) rfl ?_
              refine x_goto F 170 dX0_scoreOf_202 (by decide) ?_
              refine x_lv [(0, .ref (ad 100)), (1, .ref q), (2, .int (x + (if (nI 0) < ((T 9 i) - (T 8 i)) then ((T 9 i) - (T 8 i)) else (nI 0)))), (3, .int f), (4, .int (nI (i + 1)))] [2, 3, 1, 4, 0] rfl ?_
              exact ih170 (i + 1) (x + (if (nI 0) < ((T 9 i) - (T 8 i)) then ((T 9 i) - (T 8 i)) else (nI 0))) (by omega) (by unfold hdO; rw [ex]) (by omega)
        exact loop170 _ 0 _ (Nat.zero_le _) rfl (Nat.lt_succ_self _)
      · have h27n : ¬ 16 ≤ j := fun z => h27 ((nI_leI (by decide) (by omega)).mpr z)
        refine x_iload F 4 dX0_scoreOf_30 rfl ?_
        refine x_aload_n F 1 dX0_scoreOf_32 rfl ?_
        refine x_alen F 10 0 rfl rfl (nI 16) rfl dX0_scoreOf_33 ?_
        refine x_icmp_ge F 167 dX0_scoreOf_34 (by decide) (fun h34 => ?_) (fun h34 => ?_)
        · have h34n : 16 ≤ j := (nI_leI (by decide) (by omega)).mp h34
          exact absurd h34n (by omega)
        · have h34n : ¬ 16 ≤ j := fun z => h34 ((nI_leI (by decide) (by omega)).mpr z)
          refine x_aload_n F 0 dX0_scoreOf_37 rfl ?_
          refine x_get F inUX0 0 2 rfl rfl (by decide) wfX0_9 rfl dX0_scoreOf_38 ?_
          refine x_iload F 4 dX0_scoreOf_41 rfl ?_
          refine x_zald F 1 (k := j) rfl (by omega) (by decide) dX0_scoreOf_43 ?_
          refine x_if_ne F 50 dX0_scoreOf_44 (by decide) (fun h44 => ?_) (fun h44 => ?_)
          · rw [eT, scT_o M pl 2 (by decide) (by decide)] at h44
            refine x_aload_n F 1 dX0_scoreOf_50 rfl ?_
            refine x_iload F 4 dX0_scoreOf_51 rfl ?_
            refine x_iald F 10 (k := j) rfl (by omega) (by decide) dX0_scoreOf_53 ?_
            refine x_istore F [(5, .int (pl j)), (0, .ref (ad 100)), (1, .ref q), (2, .int h), (3, .int f), (4, .int (nI j))] dX0_scoreOf_54 (by decide) rfl ?_
            refine x_iload F 0 dX0_scoreOf_56 rfl ?_
            refine x_callSNr F [] [] (c_X4_isRoom l D cA (pl j)) mwX4_isRoom F.2.1.2.1.2.2.1 rfl rfl (Nat.le_of_ble_eq_true rfl) ⟨by decide, by decide⟩ ⟨by show _ ≤ 0; omega, by show _ ≤ 0; omega⟩ rfl (by decide) dX0_scoreOf_58 (fun r9 hp10 => ?_)
            subst hp10
            refine x_if_eq F 146 dX0_scoreOf_61 (by decide) (fun h61 => ?_) (fun h61 => ?_)
            · refine x_iload_n F 4 dX0_scoreOf_146 rfl ?_
              refine x_bipush F (nI 7) dX0_scoreOf_147 (by decide +kernel) ?_
              refine x_aload_n F 1 dX0_scoreOf_149 rfl ?_
              refine x_get F inUX0 0 4 rfl rfl (by decide) wfX0_19 rfl dX0_scoreOf_150 ?_
              refine x_iload F 5 dX0_scoreOf_153 rfl ?_
              refine x_iald F 3 (k := j) rfl (by omega) (by decide) dX0_scoreOf_155 ?_
              refine x_imul F ((nI 7) * (T 4 j)) dX0_scoreOf_156 rfl ?_
              refine x_iconst F (nI 1) dX0_scoreOf_157 (by decide +kernel) ?_
              refine x_iadd F (((nI 7) * (T 4 j)) + (nI 1)) dX0_scoreOf_158 rfl ?_
              refine x_iadd F (f + (((nI 7) * (T 4 j)) + (nI 1))) dX0_scoreOf_159 rfl ?_
              refine x_istore_n F [(3, .int (f + (((nI 7) * (T 4 j)) + (nI 1)))), (5, .int (pl j)), (0, .ref (ad 100)), (1, .ref q), (2, .int h), (4, .int (nI j))] dX0_scoreOf_160 (by decide) rfl ?_
              refine x_iinc F (nI (j + 1)) 5 [(4, .int (nI (j + 1))), (3, .int (f + (((nI 7) * (T 4 j)) + (nI 1)))), (5, .int (pl j)), (0, .ref (ad 100)), (1, .ref q), (2, .int h)] dX0_scoreOf_161 rfl ((nI_add j 1)) (by decide) rfl ?_
              refine x_goto F 23 dX0_scoreOf_164 (by decide) ?_
              refine x_lv [(0, .ref (ad 100)), (1, .ref q), (2, .int h), (3, .int (f + (((nI 7) * (T 4 j)) + (nI 1)))), (4, .int (nI (j + 1)))] [3, 4, 5, 1, 0] rfl ?_
              exact ih23 (j + 1) T h (f + (((nI 7) * (T 4 j)) + (nI 1))) (by omega) (by rw [(sc_nr h44 (bz_0.mp h61)).1]; exact eT) (by rw [(sc_nr h44 (bz_0.mp h61)).2.1]; exact eh) (by rw [(sc_nr h44 (bz_0.mp h61)).2.2, es, eT, scT_o M pl 4 (by decide) (by decide)]) (by omega)
            · obtain ⟨r, hr, er⟩ := wn (n := 5) (by decide) (bz_n0.mp h61)
              rw [er]
              refine x_iload_n F 3 dX0_scoreOf_64 rfl ?_
              refine x_bipush F (nI 10) dX0_scoreOf_65 (by decide +kernel) ?_
              refine x_aload_n F 1 dX0_scoreOf_67 rfl ?_
              refine x_get F inUX0 0 7 rfl rfl (by decide) wfX0_28 rfl dX0_scoreOf_68 ?_
              refine x_iload F 5 dX0_scoreOf_71 rfl ?_
              refine x_iald F 6 (k := j) rfl (by omega) (by decide) dX0_scoreOf_73 ?_
              refine x_aload_n F 1 dX0_scoreOf_74 rfl ?_
              refine x_get F inUX0 0 10 rfl rfl (by decide) wfX0_37 rfl dX0_scoreOf_75 ?_
              refine x_iload F 0 dX0_scoreOf_78 rfl ?_
              refine x_iald F 9 (k := r) rfl (by omega) (by decide) dX0_scoreOf_80 ?_
              refine x_iand F ((T 7 j) &&& (T 10 r)) dX0_scoreOf_81 rfl ?_
              refine x_callSr F [.int (nI 10), .int h] [] (c_J6_bitCount_0f7a4 l D cA ((T 7 j) &&& (T 10 r))) mwJ6_bitCount_0f7a4 wmX0_109 rfl rfl (Nat.le_of_ble_eq_true rfl) ⟨by decide, by decide⟩ ⟨by show _ ≤ 0; omega, by show _ ≤ 0; omega⟩ rfl (by decide) dX0_scoreOf_82 (fun r11 hp12 => ?_)
              subst hp12
              refine x_imul F ((nI 10) * (bcnt ((T 7 j) &&& (T 10 r)))) dX0_scoreOf_85 rfl ?_
              refine x_iadd F (h + ((nI 10) * (bcnt ((T 7 j) &&& (T 10 r))))) dX0_scoreOf_86 rfl ?_
              refine x_istore_n F [(2, .int (h + ((nI 10) * (bcnt ((T 7 j) &&& (T 10 r)))))), (5, .int (nI r)), (0, .ref (ad 100)), (1, .ref q), (3, .int f), (4, .int (nI j))] dX0_scoreOf_87 (by decide) rfl ?_
              refine x_aload_n F 2 dX0_scoreOf_88 rfl ?_
              refine x_get F inUX0 0 10 rfl rfl (by decide) wfX0_37 rfl dX0_scoreOf_89 ?_
              refine x_iload F 1 dX0_scoreOf_92 rfl ?_
              refine x_dup2 F dX0_scoreOf_94 rfl rfl ?_
              refine x_iald F 9 (k := r) rfl (by omega) (by decide) dX0_scoreOf_95 ?_
              refine x_iconst F (nI 1) dX0_scoreOf_96 (by decide +kernel) ?_
              refine x_iload F 5 dX0_scoreOf_97 rfl ?_
              refine x_ishl F ((nI 1) <<< ((nI j) &&& 31)) dX0_scoreOf_99 rfl ?_
              refine x_ior F ((T 10 r) ||| ((nI 1) <<< ((nI j) &&& 31))) dX0_scoreOf_100 rfl ?_
              refine x_iast F 9 (k := r) ((wF cA ad (st2 T 10 r ((T 10 r) ||| ((nI 1) <<< ((nI j) &&& 31))))) ++ [(q, .inl (cA 0, 16, .inl pl))]) rfl (by omega) (by decide) rfl dX0_scoreOf_101 ?_
              refine x_aload_n F 2 dX0_scoreOf_102 rfl ?_
              refine x_get F inUX0 0 9 rfl rfl (by decide) wfX0_34 rfl dX0_scoreOf_103 ?_
              refine x_iload F 1 dX0_scoreOf_106 rfl ?_
              refine x_dup2 F dX0_scoreOf_108 rfl rfl ?_
              refine x_iald F 8 (k := r) rfl (by omega) (by decide) dX0_scoreOf_109 ?_
              refine x_aload_n F 2 dX0_scoreOf_110 rfl ?_
              refine x_get F inUX0 0 3 rfl rfl (by decide) wfX0_15 rfl dX0_scoreOf_111 ?_
              refine x_iload F 5 dX0_scoreOf_114 rfl ?_
              refine x_iald F 2 (k := j) rfl (by omega) (by decide) dX0_scoreOf_116 ?_
              refine x_iadd F (((st2 T 10 r ((T 10 r) ||| ((nI 1) <<< ((nI j) &&& 31)))) 9 r) + ((st2 T 10 r ((T 10 r) ||| ((nI 1) <<< ((nI j) &&& 31)))) 3 j)) dX0_scoreOf_117 rfl ?_
              refine x_iast F 8 (k := r) ((wF cA ad (st2 (st2 T 10 r ((T 10 r) ||| ((nI 1) <<< ((nI j) &&& 31)))) 9 r (((st2 T 10 r ((T 10 r) ||| ((nI 1) <<< ((nI j) &&& 31)))) 9 r) + ((st2 T 10 r ((T 10 r) ||| ((nI 1) <<< ((nI j) &&& 31)))) 3 j)))) ++ [(q, .inl (cA 0, 16, .inl pl))]) rfl (by omega) (by decide) rfl dX0_scoreOf_118 ?_
              refine x_iload_n F 4 dX0_scoreOf_119 rfl ?_
              refine x_aload_n F 2 dX0_scoreOf_120 rfl ?_
              refine x_get F inUX0 0 4 rfl rfl (by decide) wfX0_19 rfl dX0_scoreOf_121 ?_
              refine x_iload F 5 dX0_scoreOf_124 rfl ?_
              refine x_iald F 3 (k := j) rfl (by omega) (by decide) dX0_scoreOf_126 ?_
              refine x_iload F 1 dX0_scoreOf_127 rfl ?_
              refine x_aload_n F 2 dX0_scoreOf_129 rfl ?_
              refine x_get F inUX0 0 5 rfl rfl (by decide) wfX0_22 rfl dX0_scoreOf_130 ?_
              refine x_iload F 5 dX0_scoreOf_133 rfl ?_
              refine x_iald F 4 (k := j) rfl (by omega) (by decide) dX0_scoreOf_135 ?_
              refine x_isub F ((nI r) - ((st2 (st2 T 10 r ((T 10 r) ||| ((nI 1) <<< ((nI j) &&& 31)))) 9 r (((st2 T 10 r ((T 10 r) ||| ((nI 1) <<< ((nI j) &&& 31)))) 9 r) + ((st2 T 10 r ((T 10 r) ||| ((nI 1) <<< ((nI j) &&& 31)))) 3 j))) 5 j)) dX0_scoreOf_136 rfl ?_
              refine x_mabs F (if 0 ≤ ((nI r) - ((st2 (st2 T 10 r ((T 10 r) ||| ((nI 1) <<< ((nI j) &&& 31)))) 9 r (((st2 T 10 r ((T 10 r) ||| ((nI 1) <<< ((nI j) &&& 31)))) 9 r) + ((st2 T 10 r ((T 10 r) ||| ((nI 1) <<< ((nI j) &&& 31)))) 3 j))) 5 j)) then ((nI r) - ((st2 (st2 T 10 r ((T 10 r) ||| ((nI 1) <<< ((nI j) &&& 31)))) 9 r (((st2 T 10 r ((T 10 r) ||| ((nI 1) <<< ((nI j) &&& 31)))) 9 r) + ((st2 T 10 r ((T 10 r) ||| ((nI 1) <<< ((nI j) &&& 31)))) 3 j))) 5 j)) else 0 - ((nI r) - ((st2 (st2 T 10 r ((T 10 r) ||| ((nI 1) <<< ((nI j) &&& 31)))) 9 r (((st2 T 10 r ((T 10 r) ||| ((nI 1) <<< ((nI j) &&& 31)))) 9 r) + ((st2 T 10 r ((T 10 r) ||| ((nI 1) <<< ((nI j) &&& 31)))) 3 j))) 5 j))) wmX0_115 (by decide) (Nat.le_of_ble_eq_true rfl) (by show _ ≤ 0; omega) (by show _ ≤ 0; omega) rfl dX0_scoreOf_137 ?_
              refine x_imul F (((st2 (st2 T 10 r ((T 10 r) ||| ((nI 1) <<< ((nI j) &&& 31)))) 9 r (((st2 T 10 r ((T 10 r) ||| ((nI 1) <<< ((nI j) &&& 31)))) 9 r) + ((st2 T 10 r ((T 10 r) ||| ((nI 1) <<< ((nI j) &&& 31)))) 3 j))) 4 j) * (if 0 ≤ ((nI r) - ((st2 (st2 T 10 r ((T 10 r) ||| ((nI 1) <<< ((nI j) &&& 31)))) 9 r (((st2 T 10 r ((T 10 r) ||| ((nI 1) <<< ((nI j) &&& 31)))) 9 r) + ((st2 T 10 r ((T 10 r) ||| ((nI 1) <<< ((nI j) &&& 31)))) 3 j))) 5 j)) then ((nI r) - ((st2 (st2 T 10 r ((T 10 r) ||| ((nI 1) <<< ((nI j) &&& 31)))) 9 r (((st2 T 10 r ((T 10 r) ||| ((nI 1) <<< ((nI j) &&& 31)))) 9 r) + ((st2 T 10 r ((T 10 r) ||| ((nI 1) <<< ((nI j) &&& 31)))) 3 j))) 5 j)) else 0 - ((nI r) - ((st2 (st2 T 10 r ((T 10 r) ||| ((nI 1) <<< ((nI j) &&& 31)))) 9 r (((st2 T 10 r ((T 10 r) ||| ((nI 1) <<< ((nI j) &&& 31)))) 9 r) + ((st2 T 10 r ((T 10 r) ||| ((nI 1) <<< ((nI j) &&& 31)))) 3 j))) 5 j)))) dX0_scoreOf_140 rfl ?_
              refine x_iadd F (f + (((st2 (st2 T 10 r ((T 10 r) ||| ((nI 1) <<< ((nI j) &&& 31)))) 9 r (((st2 T 10 r ((T 10 r) ||| ((nI 1) <<< ((nI j) &&& 31)))) 9 r) + ((st2 T 10 r ((T 10 r) ||| ((nI 1) <<< ((nI j) &&& 31)))) 3 j))) 4 j) * (if 0 ≤ ((nI r) - ((st2 (st2 T 10 r ((T 10 r) ||| ((nI 1) <<< ((nI j) &&& 31)))) 9 r (((st2 T 10 r ((T 10 r) ||| ((nI 1) <<< ((nI j) &&& 31)))) 9 r) + ((st2 T 10 r ((T 10 r) ||| ((nI 1) <<< ((nI j) &&& 31)))) 3 j))) 5 j)) then ((nI r) - ((st2 (st2 T 10 r ((T 10 r) ||| ((nI 1) <<< ((nI j) &&& 31)))) 9 r (((st2 T 10 r ((T 10 r) ||| ((nI 1) <<< ((nI j) &&& 31)))) 9 r) + ((st2 T 10 r ((T 10 r) ||| ((nI 1) <<< ((nI j) &&& 31)))) 3 j))) 5 j)) else 0 - ((nI r) - ((st2 (st2 T 10 r ((T 10 r) ||| ((nI 1) <<< ((nI j) &&& 31)))) 9 r (((st2 T 10 r ((T 10 r) ||| ((nI 1) <<< ((nI j) &&& 31)))) 9 r) + ((st2 T 10 r ((T 10 r) ||| ((nI 1) <<< ((nI j) &&& 31)))) 3 j))) 5 j))))) dX0_scoreOf_141 rfl ?_
              refine x_istore_n F [(3, .int (f + (((st2 (st2 T 10 r ((T 10 r) ||| ((nI 1) <<< ((nI j) &&& 31)))) 9 r (((st2 T 10 r ((T 10 r) ||| ((nI 1) <<< ((nI j) &&& 31)))) 9 r) + ((st2 T 10 r ((T 10 r) ||| ((nI 1) <<< ((nI j) &&& 31)))) 3 j))) 4 j) * (if 0 ≤ ((nI r) - ((st2 (st2 T 10 r ((T 10 r) ||| ((nI 1) <<< ((nI j) &&& 31)))) 9 r (((st2 T 10 r ((T 10 r) ||| ((nI 1) <<< ((nI j) &&& 31)))) 9 r) + ((st2 T 10 r ((T 10 r) ||| ((nI 1) <<< ((nI j) &&& 31)))) 3 j))) 5 j)) then ((nI r) - ((st2 (st2 T 10 r ((T 10 r) ||| ((nI 1) <<< ((nI j) &&& 31)))) 9 r (((st2 T 10 r ((T 10 r) ||| ((nI 1) <<< ((nI j) &&& 31)))) 9 r) + ((st2 T 10 r ((T 10 r) ||| ((nI 1) <<< ((nI j) &&& 31)))) 3 j))) 5 j)) else 0 - ((nI r) - ((st2 (st2 T 10 r ((T 10 r) ||| ((nI 1) <<< ((nI j) &&& 31)))) 9 r (((st2 T 10 r ((T 10 r) ||| ((nI 1) <<< ((nI j) &&& 31)))) 9 r) + ((st2 T 10 r ((T 10 r) ||| ((nI 1) <<< ((nI j) &&& 31)))) 3 j))) 5 j)))))), (2, .int (h + ((nI 10) * (bcnt ((T 7 j) &&& (T 10 r)))))), (5, .int (nI r)), (0, .ref (ad 100)), (1, .ref q), (4, .int (nI j))] dX0_scoreOf_142 (by decide) rfl ?_
              refine x_goto F 161 dX0_scoreOf_143 (by decide) ?_
              refine x_iinc F (nI (j + 1)) 5 [(4, .int (nI (j + 1))), (3, .int (f + (((st2 (st2 T 10 r ((T 10 r) ||| ((nI 1) <<< ((nI j) &&& 31)))) 9 r (((st2 T 10 r ((T 10 r) ||| ((nI 1) <<< ((nI j) &&& 31)))) 9 r) + ((st2 T 10 r ((T 10 r) ||| ((nI 1) <<< ((nI j) &&& 31)))) 3 j))) 4 j) * (if 0 ≤ ((nI r) - ((st2 (st2 T 10 r ((T 10 r) ||| ((nI 1) <<< ((nI j) &&& 31)))) 9 r (((st2 T 10 r ((T 10 r) ||| ((nI 1) <<< ((nI j) &&& 31)))) 9 r) + ((st2 T 10 r ((T 10 r) ||| ((nI 1) <<< ((nI j) &&& 31)))) 3 j))) 5 j)) then ((nI r) - ((st2 (st2 T 10 r ((T 10 r) ||| ((nI 1) <<< ((nI j) &&& 31)))) 9 r (((st2 T 10 r ((T 10 r) ||| ((nI 1) <<< ((nI j) &&& 31)))) 9 r) + ((st2 T 10 r ((T 10 r) ||| ((nI 1) <<< ((nI j) &&& 31)))) 3 j))) 5 j)) else 0 - ((nI r) - ((st2 (st2 T 10 r ((T 10 r) ||| ((nI 1) <<< ((nI j) &&& 31)))) 9 r (((st2 T 10 r ((T 10 r) ||| ((nI 1) <<< ((nI j) &&& 31)))) 9 r) + ((st2 T 10 r ((T 10 r) ||| ((nI 1) <<< ((nI j) &&& 31)))) 3 j))) 5 j)))))), (2, .int (h + ((nI 10) * (bcnt ((T 7 j) &&& (T 10 r)))))), (5, .int (nI r)), (0, .ref (ad 100)), (1, .ref q)] dX0_scoreOf_161 rfl ((nI_add j 1)) (by decide) rfl ?_
              refine x_goto F 23 dX0_scoreOf_164 (by decide) ?_
              refine x_lv [(0, .ref (ad 100)), (1, .ref q), (2, .int (h + ((nI 10) * (bcnt ((T 7 j) &&& (T 10 r)))))), (3, .int (f + (((st2 (st2 T 10 r ((T 10 r) ||| ((nI 1) <<< ((nI j) &&& 31)))) 9 r (((st2 T 10 r ((T 10 r) ||| ((nI 1) <<< ((nI j) &&& 31)))) 9 r) + ((st2 T 10 r ((T 10 r) ||| ((nI 1) <<< ((nI j) &&& 31)))) 3 j))) 4 j) * (if 0 ≤ ((nI r) - ((st2 (st2 T 10 r ((T 10 r) ||| ((nI 1) <<< ((nI j) &&& 31)))) 9 r (((st2 T 10 r ((T 10 r) ||| ((nI 1) <<< ((nI j) &&& 31)))) 9 r) + ((st2 T 10 r ((T 10 r) ||| ((nI 1) <<< ((nI j) &&& 31)))) 3 j))) 5 j)) then ((nI r) - ((st2 (st2 T 10 r ((T 10 r) ||| ((nI 1) <<< ((nI j) &&& 31)))) 9 r (((st2 T 10 r ((T 10 r) ||| ((nI 1) <<< ((nI j) &&& 31)))) 9 r) + ((st2 T 10 r ((T 10 r) ||| ((nI 1) <<< ((nI j) &&& 31)))) 3 j))) 5 j)) else 0 - ((nI r) - ((st2 (st2 T 10 r ((T 10 r) ||| ((nI 1) <<< ((nI j) &&& 31)))) 9 r (((st2 T 10 r ((T 10 r) ||| ((nI 1) <<< ((nI j) &&& 31)))) 9 r) + ((st2 T 10 r ((T 10 r) ||| ((nI 1) <<< ((nI j) &&& 31)))) 3 j))) 5 j)))))), (4, .int (nI (j + 1)))] [4, 5, 2, 1, 0] rfl ?_
              exact ih23 (j + 1) (st2 (st2 T 10 r ((T 10 r) ||| ((nI 1) <<< ((nI j) &&& 31)))) 9 r (((st2 T 10 r ((T 10 r) ||| ((nI 1) <<< ((nI j) &&& 31)))) 9 r) + ((st2 T 10 r ((T 10 r) ||| ((nI 1) <<< ((nI j) &&& 31)))) 3 j))) (h + ((nI 10) * (bcnt ((T 7 j) &&& (T 10 r))))) (f + (((st2 (st2 T 10 r ((T 10 r) ||| ((nI 1) <<< ((nI j) &&& 31)))) 9 r (((st2 T 10 r ((T 10 r) ||| ((nI 1) <<< ((nI j) &&& 31)))) 9 r) + ((st2 T 10 r ((T 10 r) ||| ((nI 1) <<< ((nI j) &&& 31)))) 3 j))) 4 j) * (if 0 ≤ ((nI r) - ((st2 (st2 T 10 r ((T 10 r) ||| ((nI 1) <<< ((nI j) &&& 31)))) 9 r (((st2 T 10 r ((T 10 r) ||| ((nI 1) <<< ((nI j) &&& 31)))) 9 r) + ((st2 T 10 r ((T 10 r) ||| ((nI 1) <<< ((nI j) &&& 31)))) 3 j))) 5 j)) then ((nI r) - ((st2 (st2 T 10 r ((T 10 r) ||| ((nI 1) <<< ((nI j) &&& 31)))) 9 r (((st2 T 10 r ((T 10 r) ||| ((nI 1) <<< ((nI j) &&& 31)))) 9 r) + ((st2 T 10 r ((T 10 r) ||| ((nI 1) <<< ((nI j) &&& 31)))) 3 j))) 5 j)) else 0 - ((nI r) - ((st2 (st2 T 10 r ((T 10 r) ||| ((nI 1) <<< ((nI j) &&& 31)))) 9 r (((st2 T 10 r ((T 10 r) ||| ((nI 1) <<< ((nI j) &&& 31)))) 9 r) + ((st2 T 10 r ((T 10 r) ||| ((nI 1) <<< ((nI j) &&& 31)))) 3 j))) 5 j))))) (by omega) (by rw [(sc_rm h44 er hr).1, ← scT_o M pl 3 (by decide) (by decide) j, eT]; rfl) (by rw [(sc_rm h44 er hr).2.1, eh, eT, scT_o M pl 7 (by decide) (by decide)]) (by rw [(sc_rm h44 er hr).2.2, es, ← scT_o M pl 4 (by decide) (by decide) j, ← scT_o M pl 5 (by decide) (by decide) j, eT]; rfl) (by omega)
          · rw [eT, scT_o M pl 2 (by decide) (by decide)] at h44
            refine x_goto F 161 dX0_scoreOf_47 (by decide) ?_
            refine x_iinc F (nI (j + 1)) 4 [(4, .int (nI (j + 1))), (0, .ref (ad 100)), (1, .ref q), (2, .int h), (3, .int f)] dX0_scoreOf_161 rfl ((nI_add j 1)) (by decide) rfl ?_
            refine x_goto F 23 dX0_scoreOf_164 (by decide) ?_
            refine x_lv [(0, .ref (ad 100)), (1, .ref q), (2, .int h), (3, .int f), (4, .int (nI (j + 1)))] [1, 2, 3, 4, 0] rfl ?_
            exact ih23 (j + 1) T h f (by omega) (by rw [(sc_no h44).1]; exact eT) (by rw [(sc_no h44).2.1]; exact eh) (by rw [(sc_no h44).2.2]; exact es) (by omega)
  exact loop23 _ 0 _ _ _ (Nat.zero_le _) rfl rfl rfl (Nat.lt_succ_self _)

set_option maxHeartbeats 4000000 in
set_option maxRecDepth 100000 in
theorem c_X0_init (l : Launch) (D : va_G) (cA : Nat → ClassId) (h0 : Nat)  : Cg l D cA yX0_init cX0_init 1 none 2 9 114 ([.ref h0] : List Value) ([(h0, .inr (0, [.int 0, .int 0, .null, .null, .null, .null, .null, .null, .null, .null, .null]))]) (fun (r : Option Value) (u : (Nat → Nat) × (Nat → Nat → Int32)) => r = none ∧ u.1 100 = h0 ∧ u.2 = clr (fun _ _ => 0)) (fun u : (Nat → Nat) × (Nat → Nat → Int32) => wF cA u.1 u.2) := by
  refine x_met (by decide +kernel) rfl (Nat.le_of_ble_eq_true rfl) ?_
  intro xp xe xs xm xbl xme xco F hnm
  refine x_lv [(0, .ref h0)] [0] rfl ?_
  refine x_aload_n F 0 dX0_init_0 rfl ?_
  refine x_objInit F wmX0_3 wiJO_init wcJO_init (by decide) (Nat.le_of_ble_eq_true rfl) dX0_init_1 ?_
  refine x_aload_n F 0 dX0_init_4 rfl ?_
  refine x_bipush F (nI 16) dX0_init_5 (by decide +kernel) ?_
  refine x_newZ F (k := 16) wa_boolean (by omega) (by show _ ≤ 9; omega) (by show _ ≤ 114; omega) dX0_init_7 (fun q1 => ?_)
  refine x_putF F hnm inUX0 tyX0_ok nmX0 0 2 ([(h0, .inr (0, [.int 0, .int 0, .ref q1, .null, .null, .null, .null, .null, .null, .null, .null]))] ++ [(q1, .inl (cA 2, 16, .inl (fun _ => 0)))]) rfl rfl (by decide) wfX0_9 rfl rfl rfl rfl rfl (Nat.le_of_ble_eq_true rfl) rfl dX0_init_9 ?_
  refine x_aload_n F 0 dX0_init_12 rfl ?_
  refine x_bipush F (nI 16) dX0_init_13 (by decide +kernel) ?_
  refine x_newI F (k := 16) wa_int (by omega) (by show _ ≤ 9; omega) (by show _ ≤ 114; omega) dX0_init_15 (fun q2 => ?_)
  refine x_putF F hnm inUX0 tyX0_ok nmX0 0 3 ([(h0, .inr (0, [.int 0, .int 0, .ref q1, .ref q2, .null, .null, .null, .null, .null, .null, .null]))] ++ [(q1, .inl (cA 2, 16, .inl (fun _ => 0)))] ++ [(q2, .inl (cA 0, 16, .inl (fun _ => 0)))]) rfl rfl (by decide) wfX0_15 rfl rfl rfl rfl rfl (Nat.le_of_ble_eq_true rfl) rfl dX0_init_17 ?_
  refine x_aload_n F 0 dX0_init_20 rfl ?_
  refine x_bipush F (nI 16) dX0_init_21 (by decide +kernel) ?_
  refine x_newI F (k := 16) wa_int (by omega) (by show _ ≤ 9; omega) (by show _ ≤ 114; omega) dX0_init_23 (fun q3 => ?_)
  refine x_putF F hnm inUX0 tyX0_ok nmX0 0 4 ([(h0, .inr (0, [.int 0, .int 0, .ref q1, .ref q2, .ref q3, .null, .null, .null, .null, .null, .null]))] ++ [(q1, .inl (cA 2, 16, .inl (fun _ => 0)))] ++ [(q2, .inl (cA 0, 16, .inl (fun _ => 0)))] ++ [(q3, .inl (cA 0, 16, .inl (fun _ => 0)))]) rfl rfl (by decide) wfX0_19 rfl rfl rfl rfl rfl (Nat.le_of_ble_eq_true rfl) rfl dX0_init_25 ?_
  refine x_aload_n F 0 dX0_init_28 rfl ?_
  refine x_bipush F (nI 16) dX0_init_29 (by decide +kernel) ?_
  refine x_newI F (k := 16) wa_int (by omega) (by show _ ≤ 9; omega) (by show _ ≤ 114; omega) dX0_init_31 (fun q4 => ?_)
  refine x_putF F hnm inUX0 tyX0_ok nmX0 0 5 ([(h0, .inr (0, [.int 0, .int 0, .ref q1, .ref q2, .ref q3, .ref q4, .null, .null, .null, .null, .null]))] ++ [(q1, .inl (cA 2, 16, .inl (fun _ => 0)))] ++ [(q2, .inl (cA 0, 16, .inl (fun _ => 0)))] ++ [(q3, .inl (cA 0, 16, .inl (fun _ => 0)))] ++ [(q4, .inl (cA 0, 16, .inl (fun _ => 0)))]) rfl rfl (by decide) wfX0_22 rfl rfl rfl rfl rfl (Nat.le_of_ble_eq_true rfl) rfl dX0_init_33 ?_
  refine x_aload_n F 0 dX0_init_36 rfl ?_
  refine x_bipush F (nI 16) dX0_init_37 (by decide +kernel) ?_
  refine x_newI F (k := 16) wa_int (by omega) (by show _ ≤ 9; omega) (by show _ ≤ 114; omega) dX0_init_39 (fun q5 => ?_)
  refine x_putF F hnm inUX0 tyX0_ok nmX0 0 6 ([(h0, .inr (0, [.int 0, .int 0, .ref q1, .ref q2, .ref q3, .ref q4, .ref q5, .null, .null, .null, .null]))] ++ [(q1, .inl (cA 2, 16, .inl (fun _ => 0)))] ++ [(q2, .inl (cA 0, 16, .inl (fun _ => 0)))] ++ [(q3, .inl (cA 0, 16, .inl (fun _ => 0)))] ++ [(q4, .inl (cA 0, 16, .inl (fun _ => 0)))] ++ [(q5, .inl (cA 0, 16, .inl (fun _ => 0)))]) rfl rfl (by decide) wfX0_25 rfl rfl rfl rfl rfl (Nat.le_of_ble_eq_true rfl) rfl dX0_init_41 ?_
  refine x_aload_n F 0 dX0_init_44 rfl ?_
  refine x_bipush F (nI 16) dX0_init_45 (by decide +kernel) ?_
  refine x_newI F (k := 16) wa_int (by omega) (by show _ ≤ 9; omega) (by show _ ≤ 114; omega) dX0_init_47 (fun q6 => ?_)
  refine x_putF F hnm inUX0 tyX0_ok nmX0 0 7 ([(h0, .inr (0, [.int 0, .int 0, .ref q1, .ref q2, .ref q3, .ref q4, .ref q5, .ref q6, .null, .null, .null]))] ++ [(q1, .inl (cA 2, 16, .inl (fun _ => 0)))] ++ [(q2, .inl (cA 0, 16, .inl (fun _ => 0)))] ++ [(q3, .inl (cA 0, 16, .inl (fun _ => 0)))] ++ [(q4, .inl (cA 0, 16, .inl (fun _ => 0)))] ++ [(q5, .inl (cA 0, 16, .inl (fun _ => 0)))] ++ [(q6, .inl (cA 0, 16, .inl (fun _ => 0)))]) rfl rfl (by decide) wfX0_28 rfl rfl rfl rfl rfl (Nat.le_of_ble_eq_true rfl) rfl dX0_init_49 ?_
  refine x_aload_n F 0 dX0_init_52 rfl ?_
  refine x_bipush F (nI 6) dX0_init_53 (by decide +kernel) ?_
  refine x_newI F (k := 6) wa_int (by omega) (by show _ ≤ 9; omega) (by show _ ≤ 114; omega) dX0_init_55 (fun q7 => ?_)
  refine x_putF F hnm inUX0 tyX0_ok nmX0 0 8 ([(h0, .inr (0, [.int 0, .int 0, .ref q1, .ref q2, .ref q3, .ref q4, .ref q5, .ref q6, .ref q7, .null, .null]))] ++ [(q1, .inl (cA 2, 16, .inl (fun _ => 0)))] ++ [(q2, .inl (cA 0, 16, .inl (fun _ => 0)))] ++ [(q3, .inl (cA 0, 16, .inl (fun _ => 0)))] ++ [(q4, .inl (cA 0, 16, .inl (fun _ => 0)))] ++ [(q5, .inl (cA 0, 16, .inl (fun _ => 0)))] ++ [(q6, .inl (cA 0, 16, .inl (fun _ => 0)))] ++ [(q7, .inl (cA 0, 6, .inl (fun _ => 0)))]) rfl rfl (by decide) wfX0_31 rfl rfl rfl rfl rfl (Nat.le_of_ble_eq_true rfl) rfl dX0_init_57 ?_
  refine x_aload_n F 0 dX0_init_60 rfl ?_
  refine x_bipush F (nI 6) dX0_init_61 (by decide +kernel) ?_
  refine x_newI F (k := 6) wa_int (by omega) (by show _ ≤ 9; omega) (by show _ ≤ 114; omega) dX0_init_63 (fun q8 => ?_)
  refine x_putF F hnm inUX0 tyX0_ok nmX0 0 9 ([(h0, .inr (0, [.int 0, .int 0, .ref q1, .ref q2, .ref q3, .ref q4, .ref q5, .ref q6, .ref q7, .ref q8, .null]))] ++ [(q1, .inl (cA 2, 16, .inl (fun _ => 0)))] ++ [(q2, .inl (cA 0, 16, .inl (fun _ => 0)))] ++ [(q3, .inl (cA 0, 16, .inl (fun _ => 0)))] ++ [(q4, .inl (cA 0, 16, .inl (fun _ => 0)))] ++ [(q5, .inl (cA 0, 16, .inl (fun _ => 0)))] ++ [(q6, .inl (cA 0, 16, .inl (fun _ => 0)))] ++ [(q7, .inl (cA 0, 6, .inl (fun _ => 0)))] ++ [(q8, .inl (cA 0, 6, .inl (fun _ => 0)))]) rfl rfl (by decide) wfX0_34 rfl rfl rfl rfl rfl (Nat.le_of_ble_eq_true rfl) rfl dX0_init_65 ?_
  refine x_aload_n F 0 dX0_init_68 rfl ?_
  refine x_bipush F (nI 6) dX0_init_69 (by decide +kernel) ?_
  refine x_newI F (k := 6) wa_int (by omega) (by show _ ≤ 9; omega) (by show _ ≤ 114; omega) dX0_init_71 (fun q9 => ?_)
  refine x_putF F hnm inUX0 tyX0_ok nmX0 0 10 ([(h0, .inr (0, [.int 0, .int 0, .ref q1, .ref q2, .ref q3, .ref q4, .ref q5, .ref q6, .ref q7, .ref q8, .ref q9]))] ++ [(q1, .inl (cA 2, 16, .inl (fun _ => 0)))] ++ [(q2, .inl (cA 0, 16, .inl (fun _ => 0)))] ++ [(q3, .inl (cA 0, 16, .inl (fun _ => 0)))] ++ [(q4, .inl (cA 0, 16, .inl (fun _ => 0)))] ++ [(q5, .inl (cA 0, 16, .inl (fun _ => 0)))] ++ [(q6, .inl (cA 0, 16, .inl (fun _ => 0)))] ++ [(q7, .inl (cA 0, 6, .inl (fun _ => 0)))] ++ [(q8, .inl (cA 0, 6, .inl (fun _ => 0)))] ++ [(q9, .inl (cA 0, 6, .inl (fun _ => 0)))]) rfl rfl (by decide) wfX0_37 rfl rfl rfl rfl rfl (Nat.le_of_ble_eq_true rfl) rfl dX0_init_73 ?_
  refine x_aload_n F 0 dX0_init_76 rfl ?_
  refine x_ws (wF cA (adF h0 q1 q2 q3 q4 q5 q6 q7 q8 q9) (fun _ _ => 0)) rfl ?_
  refine x_callV F [] ([]) [0, 1, 2, 3, 4, 5, 6, 7, 8, 9] [] (c_X0_clear l D cA (adF h0 q1 q2 q3 q4 q5 q6 q7 q8 q9) (fun _ _ => 0)) mwX0_clear wmX0_40 rfl (q0 := 0) rfl rfl rfl (Nat.le_of_ble_eq_true rfl) ⟨by decide, by decide⟩ ⟨by show _ ≤ 9; omega, by show _ ≤ 114; omega⟩ rfl rfl (by decide) (by decide) (by decide) dX0_init_77 (fun r10 u11 hp12 => ?_)
  obtain ⟨rfl, rfl⟩ := hp12
  exact x_vret F ((adF h0 q1 q2 q3 q4 q5 q6 q7 q8 q9), clr (fun _ _ => 0)) (⟨rfl, rfl, rfl⟩) (rfl) (by omega) (by omega) dX0_init_80

set_option maxHeartbeats 4000000 in
set_option maxRecDepth 100000 in
theorem c_X1_init (l : Launch) (D : va_G) (cA : Nat → ClassId) (h0 : Nat)  : Cg l D cA yX1_init cX1_init 1 none 1 5 600 ([.ref h0] : List Value) ([(h0, .inr (1, [.null, .null, .null, .null, .null, .int 0]))]) (fun (r : Option Value) (u : Nat → Nat) => r = none ∧ u 100 = h0) (fun u : Nat → Nat => wL cA u (fun _ _ => 0)) := by
  refine x_met (by decide +kernel) rfl (Nat.le_of_ble_eq_true rfl) ?_
  intro xp xe xs xm xbl xme xco F hnm
  refine x_lv [(0, .ref h0)] [0] rfl ?_
  refine x_aload_n F 0 dX1_init_0 rfl ?_
  refine x_objInit F wmX1_3 wiJO_init wcJO_init (by decide) (Nat.le_of_ble_eq_true rfl) dX1_init_1 ?_
  refine x_aload_n F 0 dX1_init_4 rfl ?_
  refine x_bipush F (nI 120) dX1_init_5 (by decide +kernel) ?_
  refine x_newI F (k := 120) wa_int (by omega) (by show _ ≤ 5; omega) (by show _ ≤ 600; omega) dX1_init_7 (fun q1 => ?_)
  refine x_putF F hnm inUX1 tyX1_ok nmX1 0 0 ([(h0, .inr (1, [.ref q1, .null, .null, .null, .null, .int 0]))] ++ [(q1, .inl (cA 0, 120, .inl (fun _ => 0)))]) rfl rfl (by decide) wfX1_9 rfl rfl rfl rfl rfl (Nat.le_of_ble_eq_true rfl) rfl dX1_init_9 ?_
  refine x_aload_n F 0 dX1_init_12 rfl ?_
  refine x_bipush F (nI 120) dX1_init_13 (by decide +kernel) ?_
  refine x_newI F (k := 120) wa_int (by omega) (by show _ ≤ 5; omega) (by show _ ≤ 600; omega) dX1_init_15 (fun q2 => ?_)
  refine x_putF F hnm inUX1 tyX1_ok nmX1 0 1 ([(h0, .inr (1, [.ref q1, .ref q2, .null, .null, .null, .int 0]))] ++ [(q1, .inl (cA 0, 120, .inl (fun _ => 0)))] ++ [(q2, .inl (cA 0, 120, .inl (fun _ => 0)))]) rfl rfl (by decide) wfX1_15 rfl rfl rfl rfl rfl (Nat.le_of_ble_eq_true rfl) rfl dX1_init_17 ?_
  refine x_aload_n F 0 dX1_init_20 rfl ?_
  refine x_bipush F (nI 120) dX1_init_21 (by decide +kernel) ?_
  refine x_newI F (k := 120) wa_int (by omega) (by show _ ≤ 5; omega) (by show _ ≤ 600; omega) dX1_init_23 (fun q3 => ?_)
  refine x_putF F hnm inUX1 tyX1_ok nmX1 0 2 ([(h0, .inr (1, [.ref q1, .ref q2, .ref q3, .null, .null, .int 0]))] ++ [(q1, .inl (cA 0, 120, .inl (fun _ => 0)))] ++ [(q2, .inl (cA 0, 120, .inl (fun _ => 0)))] ++ [(q3, .inl (cA 0, 120, .inl (fun _ => 0)))]) rfl rfl (by decide) wfX1_18 rfl rfl rfl rfl rfl (Nat.le_of_ble_eq_true rfl) rfl dX1_init_25 ?_
  refine x_aload_n F 0 dX1_init_28 rfl ?_
  refine x_bipush F (nI 120) dX1_init_29 (by decide +kernel) ?_
  refine x_newI F (k := 120) wa_int (by omega) (by show _ ≤ 5; omega) (by show _ ≤ 600; omega) dX1_init_31 (fun q4 => ?_)
  refine x_putF F hnm inUX1 tyX1_ok nmX1 0 3 ([(h0, .inr (1, [.ref q1, .ref q2, .ref q3, .ref q4, .null, .int 0]))] ++ [(q1, .inl (cA 0, 120, .inl (fun _ => 0)))] ++ [(q2, .inl (cA 0, 120, .inl (fun _ => 0)))] ++ [(q3, .inl (cA 0, 120, .inl (fun _ => 0)))] ++ [(q4, .inl (cA 0, 120, .inl (fun _ => 0)))]) rfl rfl (by decide) wfX1_21 rfl rfl rfl rfl rfl (Nat.le_of_ble_eq_true rfl) rfl dX1_init_33 ?_
  refine x_aload_n F 0 dX1_init_36 rfl ?_
  refine x_bipush F (nI 120) dX1_init_37 (by decide +kernel) ?_
  refine x_newI F (k := 120) wa_int (by omega) (by show _ ≤ 5; omega) (by show _ ≤ 600; omega) dX1_init_39 (fun q5 => ?_)
  refine x_putF F hnm inUX1 tyX1_ok nmX1 0 4 ([(h0, .inr (1, [.ref q1, .ref q2, .ref q3, .ref q4, .ref q5, .int 0]))] ++ [(q1, .inl (cA 0, 120, .inl (fun _ => 0)))] ++ [(q2, .inl (cA 0, 120, .inl (fun _ => 0)))] ++ [(q3, .inl (cA 0, 120, .inl (fun _ => 0)))] ++ [(q4, .inl (cA 0, 120, .inl (fun _ => 0)))] ++ [(q5, .inl (cA 0, 120, .inl (fun _ => 0)))]) rfl rfl (by decide) wfX1_24 rfl rfl rfl rfl rfl (Nat.le_of_ble_eq_true rfl) rfl dX1_init_41 ?_
  refine x_aload_n F 0 dX1_init_44 rfl ?_
  refine x_iconst F (nI 0) dX1_init_45 (by decide +kernel) ?_
  refine x_put F inUX1 tyX1_ok nmX1 0 5 ([(h0, .inr (1, [.ref q1, .ref q2, .ref q3, .ref q4, .ref q5, .int (nI 0)]))] ++ [(q1, .inl (cA 0, 120, .inl (fun _ => 0)))] ++ [(q2, .inl (cA 0, 120, .inl (fun _ => 0)))] ++ [(q3, .inl (cA 0, 120, .inl (fun _ => 0)))] ++ [(q4, .inl (cA 0, 120, .inl (fun _ => 0)))] ++ [(q5, .inl (cA 0, 120, .inl (fun _ => 0)))]) rfl rfl (by decide) wfX1_27 rfl rfl rfl rfl (Nat.le_of_ble_eq_true rfl) rfl dX1_init_46 ?_
  exact x_vret F (adL h0 q1 q2 q3 q4 q5) (⟨rfl, rfl⟩) (rfl) (by omega) (by omega) dX1_init_49

set_option maxHeartbeats 4000000 in
set_option maxRecDepth 100000 in
theorem c_X1_add (l : Launch) (D : va_G) (cA : Nat → ClassId) (al : Nat → Nat) (ML : Nat → Nat → Int32) (n : Nat) (p1 p2 p3 p4 p5 : Int32) (hc : ML 5 0 = nI n) (hn : n < 120) : Cg l D cA yX1_add cX1_add 6 none 0 0 0 ([.ref (al 100), .int p1, .int p2, .int p3, .int p4, .int p5] : List Value) (wL cA al ML) (fun (r : Option Value) (u : Nat → Nat → Int32) => r = none ∧ u = addL ML n p1 p2 p3 p4 p5) (fun u : Nat → Nat → Int32 => wL cA al u) := by
  refine x_met (by decide +kernel) rfl (Nat.le_of_ble_eq_true rfl) ?_
  intro xp xe xs xm xbl xme xco F hnm
  refine x_lv [(0, .ref (al 100)), (1, .int p1), (2, .int p2), (3, .int p3), (4, .int p4), (5, .int p5)] [0, 1, 2, 3, 4, 5] rfl ?_
  refine x_aload_n F 0 dX1_add_0 rfl ?_
  refine x_get F inUX1 0 5 rfl rfl (by decide) wfX1_27 rfl dX1_add_1 ?_
  refine x_top (nI n) (hc) ?_
  refine x_bipush F (nI 120) dX1_add_4 (by decide +kernel) ?_
  refine x_icmp_lt F 10 dX1_add_6 (by decide) (fun h6 => ?_) (fun h6 => ?_)
  · have h6n : n < 120 := (nI_ltI (by omega) (by decide)).mp h6
    refine x_aload_n F 0 dX1_add_10 rfl ?_
    refine x_get F inUX1 0 0 rfl rfl (by decide) wfX1_9 rfl dX1_add_11 ?_
    refine x_aload_n F 0 dX1_add_14 rfl ?_
    refine x_get F inUX1 0 5 rfl rfl (by decide) wfX1_27 rfl dX1_add_15 ?_
    refine x_top (nI n) (hc) ?_
    refine x_iload_n F 1 dX1_add_18 rfl ?_
    refine x_iast F 1 (k := n) (wL cA al (st2 ML 0 n p1)) rfl (by omega) (by decide) rfl dX1_add_19 ?_
    refine x_aload_n F 0 dX1_add_20 rfl ?_
    refine x_get F inUX1 0 1 rfl rfl (by decide) wfX1_15 rfl dX1_add_21 ?_
    refine x_aload_n F 0 dX1_add_24 rfl ?_
    refine x_get F inUX1 0 5 rfl rfl (by decide) wfX1_27 rfl dX1_add_25 ?_
    refine x_top (nI n) (hc) ?_
    refine x_iload_n F 2 dX1_add_28 rfl ?_
    refine x_iast F 2 (k := n) (wL cA al (st2 (st2 ML 0 n p1) 1 n p2)) rfl (by omega) (by decide) rfl dX1_add_29 ?_
    refine x_aload_n F 0 dX1_add_30 rfl ?_
    refine x_get F inUX1 0 2 rfl rfl (by decide) wfX1_18 rfl dX1_add_31 ?_
    refine x_aload_n F 0 dX1_add_34 rfl ?_
    refine x_get F inUX1 0 5 rfl rfl (by decide) wfX1_27 rfl dX1_add_35 ?_
    refine x_top (nI n) (hc) ?_
    refine x_iload_n F 3 dX1_add_38 rfl ?_
    refine x_iast F 3 (k := n) (wL cA al (st2 (st2 (st2 ML 0 n p1) 1 n p2) 2 n p3)) rfl (by omega) (by decide) rfl dX1_add_39 ?_
    refine x_aload_n F 0 dX1_add_40 rfl ?_
    refine x_get F inUX1 0 3 rfl rfl (by decide) wfX1_21 rfl dX1_add_41 ?_
    refine x_aload_n F 0 dX1_add_44 rfl ?_
    refine x_get F inUX1 0 5 rfl rfl (by decide) wfX1_27 rfl dX1_add_45 ?_
    refine x_top (nI n) (hc) ?_
    refine x_iload F 4 dX1_add_48 rfl ?_
    refine x_iast F 4 (k := n) (wL cA al (st2 (st2 (st2 (st2 ML 0 n p1) 1 n p2) 2 n p3) 3 n p4)) rfl (by omega) (by decide) rfl dX1_add_50 ?_
    refine x_aload_n F 0 dX1_add_51 rfl ?_
    refine x_get F inUX1 0 4 rfl rfl (by decide) wfX1_24 rfl dX1_add_52 ?_
    refine x_aload_n F 0 dX1_add_55 rfl ?_
    refine x_get F inUX1 0 5 rfl rfl (by decide) wfX1_27 rfl dX1_add_56 ?_
    refine x_top (nI n) (hc) ?_
    refine x_iload F 5 dX1_add_59 rfl ?_
    refine x_iast F 5 (k := n) (wL cA al (st2 (st2 (st2 (st2 (st2 ML 0 n p1) 1 n p2) 2 n p3) 3 n p4) 4 n p5)) rfl (by omega) (by decide) rfl dX1_add_61 ?_
    refine x_aload_n F 0 dX1_add_62 rfl ?_
    refine x_dup F dX1_add_63 rfl ?_
    refine x_get F inUX1 0 5 rfl rfl (by decide) wfX1_27 rfl dX1_add_64 ?_
    refine x_top (nI n) (hc) ?_
    refine x_iconst F (nI 1) dX1_add_67 (by decide +kernel) ?_
    refine x_iadd F (nI (n + 1)) dX1_add_68 (nI_add _ _) ?_
    refine x_put F inUX1 tyX1_ok nmX1 0 5 (wL cA al (st2 (st2 (st2 (st2 (st2 (st2 ML 0 n p1) 1 n p2) 2 n p3) 3 n p4) 4 n p5) 5 0 (nI (n + 1)))) rfl rfl (by decide) wfX1_27 rfl rfl rfl rfl (Nat.le_of_ble_eq_true rfl) rfl dX1_add_69 ?_
    exact x_vret F (addL ML n p1 p2 p3 p4 p5) (⟨rfl, rfl⟩) (rfl) (by omega) (by omega) dX1_add_72
  · have h6n : ¬ n < 120 := fun z => h6 ((nI_ltI (by omega) (by decide)).mpr z)
    exact absurd h6n (by omega)

