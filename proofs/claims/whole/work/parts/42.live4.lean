/-! the class: marks, going back, facts, the constructors -/
set_option maxHeartbeats 4000000 in
set_option maxRecDepth 100000 in
theorem c_X3_init (l : Launch) (D : va_G) (cA : Nat → ClassId) (h0 L : Nat) (seed : Int32) (hL : L ≤ 8) : Cg l D cA yX3_init cX3_init 3 none 3 15 183 ([.ref h0, .int seed, .int (nI L)] : List Value) ([(h0, .inr (3, [.null, .null, .null, .null, .null, .null, .long 0, .long 0, .int 0, .int 0, .int 0, .int 0]))]) (fun (r : Option Value) (u : (Nat → Nat) × (Nat → Nat)) => r = none ∧ u.1 100 = h0) (fun u : (Nat → Nat) × (Nat → Nat) => (wS cA u.1 (u.2 100) L (newS seed) (fun _ _ => 0) (fun _ => none)) ++ (wF cA u.2 (clr (fun _ _ => 0)))) := by
  refine x_met (by decide +kernel) rfl (Nat.le_of_ble_eq_true rfl) ?_
  intro xp xe xs xm xbl xme xco F hnm
  refine x_lv [(0, .ref h0), (1, .int seed), (2, .int (nI L))] [0, 1, 2] rfl ?_
  refine x_aload_n F 0 dX3_init_0 rfl ?_
  refine x_objInit F wmX3_3 wiJO_init wcJO_init (by decide) (Nat.le_of_ble_eq_true rfl) dX3_init_1 ?_
  refine x_aload_n F 0 dX3_init_4 rfl ?_
  refine x_new F [.int 0, .int 0, .null, .null, .null, .null, .null, .null, .null, .null, .null] inUX0 tyX0_ok wkX3_9 wjX0 wnX0 (ci := 0) rfl (by intro j hj; match j, hj with | 0, _ => rfl | 1, _ => rfl | 2, _ => rfl | 3, _ => rfl | 4, _ => rfl | 5, _ => rfl | 6, _ => rfl | 7, _ => rfl | 8, _ => rfl | 9, _ => rfl | 10, _ => rfl | j + 11, h => omega) (by show _ ≤ 15; omega) (by show _ ≤ 183; omega) dX3_init_5 (fun q1 => ?_)
  refine x_dup F dX3_init_8 rfl ?_
  refine x_callI F [.ref q1, .ref h0] ([(h0, .inr (3, [.null, .null, .null, .null, .null, .null, .long 0, .long 0, .int 0, .int 0, .int 0, .int 0]))]) [1] [0] (c_X0_init l D cA q1) mwX0_init wmX3_11 rfl rfl (Nat.le_of_ble_eq_true rfl) ⟨by decide, by decide⟩ ⟨by show _ ≤ 15; omega, by show _ ≤ 183; omega⟩ rfl rfl (by decide) (by decide) (by decide) dX3_init_9 (fun r2 u3 hp4 => ?_)
  obtain ⟨af, maf⟩ := u3
  obtain ⟨rfl, haf, hmaf⟩ := hp4
  have haf : af 100 = q1 := haf
  have hmaf : maf = clr (fun _ _ => 0) := hmaf
  subst haf
  subst hmaf
  refine x_ws ([(h0, .inr (3, [.null, .null, .null, .null, .null, .null, .long 0, .long 0, .int 0, .int 0, .int 0, .int 0]))] ++ (wF cA af (clr (fun _ _ => 0)))) rfl ?_
  refine x_putF F hnm inUX3 tyX3_ok nmX3 0 0 ([(h0, .inr (3, [.ref (af 100), .null, .null, .null, .null, .null, .long 0, .long 0, .int 0, .int 0, .int 0, .int 0]))] ++ (wF cA af (clr (fun _ _ => 0)))) rfl rfl (by decide) wfX3_12 rfl rfl rfl rfl rfl (Nat.le_of_ble_eq_true rfl) rfl dX3_init_12 ?_
  refine x_aload_n F 0 dX3_init_15 rfl ?_
  refine x_callSN F [.ref h0] ([(h0, .inr (3, [.ref (af 100), .null, .null, .null, .null, .null, .long 0, .long 0, .int 0, .int 0, .int 0, .int 0]))] ++ (wF cA af (clr (fun _ _ => 0)))) [] [0, 1, 2, 3, 4, 5, 6, 7, 8, 9, 10] (c_X4_emptyPlan l D cA) mwX4_emptyPlan F.2.1.2.1.2.2.2.2.2 rfl rfl (Nat.le_of_ble_eq_true rfl) ⟨by decide, by decide⟩ ⟨by show _ ≤ 15; omega, by show _ ≤ 183; omega⟩ rfl rfl (by decide) (by decide) (by decide) dX3_init_16 (fun r5 u6 hp7 => ?_)
  obtain ⟨qp, rfl, rfl⟩ := hp7
  refine x_ws ([(h0, .inr (3, [.ref (af 100), .null, .null, .null, .null, .null, .long 0, .long 0, .int 0, .int 0, .int 0, .int 0]))] ++ (wF cA af (clr (fun _ _ => 0))) ++ [(u6, .inl (cA 0, 16, .inl (fl (fun _ => 0) 16 (-1))))]) rfl ?_
  refine x_putF F hnm inUX3 tyX3_ok nmX3 0 1 ([(h0, .inr (3, [.ref (af 100), .ref u6, .null, .null, .null, .null, .long 0, .long 0, .int 0, .int 0, .int 0, .int 0]))] ++ (wF cA af (clr (fun _ _ => 0))) ++ [(u6, .inl (cA 0, 16, .inl (fl (fun _ => 0) 16 (-1))))]) rfl rfl (by decide) wfX3_22 rfl rfl rfl rfl rfl (Nat.le_of_ble_eq_true rfl) rfl dX3_init_19 ?_
  refine x_aload_n F 0 dX3_init_22 rfl ?_
  refine x_callSN F [.ref h0] ([(h0, .inr (3, [.ref (af 100), .ref u6, .null, .null, .null, .null, .long 0, .long 0, .int 0, .int 0, .int 0, .int 0]))] ++ (wF cA af (clr (fun _ _ => 0))) ++ [(u6, .inl (cA 0, 16, .inl (fl (fun _ => 0) 16 (-1))))]) [] [0, 1, 2, 3, 4, 5, 6, 7, 8, 9, 10, 11] (c_X4_emptyPlan l D cA) mwX4_emptyPlan F.2.1.2.1.2.2.2.2.2 rfl rfl (Nat.le_of_ble_eq_true rfl) ⟨by decide, by decide⟩ ⟨by show _ ≤ 15; omega, by show _ ≤ 183; omega⟩ rfl rfl (by decide) (by decide) (by decide) dX3_init_23 (fun r8 u9 hp10 => ?_)
  obtain ⟨qb, rfl, rfl⟩ := hp10
  refine x_ws ([(h0, .inr (3, [.ref (af 100), .ref u6, .null, .null, .null, .null, .long 0, .long 0, .int 0, .int 0, .int 0, .int 0]))] ++ (wF cA af (clr (fun _ _ => 0))) ++ [(u6, .inl (cA 0, 16, .inl (fl (fun _ => 0) 16 (-1))))] ++ [(u9, .inl (cA 0, 16, .inl (fl (fun _ => 0) 16 (-1))))]) rfl ?_
  refine x_putF F hnm inUX3 tyX3_ok nmX3 0 2 ([(h0, .inr (3, [.ref (af 100), .ref u6, .ref u9, .null, .null, .null, .long 0, .long 0, .int 0, .int 0, .int 0, .int 0]))] ++ (wF cA af (clr (fun _ _ => 0))) ++ [(u6, .inl (cA 0, 16, .inl (fl (fun _ => 0) 16 (-1))))] ++ [(u9, .inl (cA 0, 16, .inl (fl (fun _ => 0) 16 (-1))))]) rfl rfl (by decide) wfX3_26 rfl rfl rfl rfl rfl (Nat.le_of_ble_eq_true rfl) rfl dX3_init_26 ?_
  refine x_aload_n F 0 dX3_init_29 rfl ?_
  refine x_iconst F (nI 2) dX3_init_30 (by decide +kernel) ?_
  refine x_newQ3 F (k := 2) wkX3_29 (by omega) (by show _ ≤ 15; omega) (by show _ ≤ 183; omega) dX3_init_31 (fun q11 => ?_)
  refine x_putF F hnm inUX3 tyX3_ok nmX3 0 4 ([(h0, .inr (3, [.ref (af 100), .ref u6, .ref u9, .null, .ref q11, .null, .long 0, .long 0, .int 0, .int 0, .int 0, .int 0]))] ++ (wF cA af (clr (fun _ _ => 0))) ++ [(u6, .inl (cA 0, 16, .inl (fl (fun _ => 0) 16 (-1))))] ++ [(u9, .inl (cA 0, 16, .inl (fl (fun _ => 0) 16 (-1))))] ++ [(q11, .inl (cA 3, 2, .inr (.inr (.inr (.inr (fun _ => none))))))]) rfl rfl (by decide) wfX3_31 rfl rfl rfl rfl rfl (Nat.le_of_ble_eq_true rfl) rfl dX3_init_34 ?_
  refine x_aload_n F 0 dX3_init_37 rfl ?_
  refine x_bipush F (nI 16) dX3_init_38 (by decide +kernel) ?_
  refine x_newI F (k := 16) wa_int (by omega) (by show _ ≤ 15; omega) (by show _ ≤ 183; omega) dX3_init_40 (fun q12 => ?_)
  refine x_putF F hnm inUX3 tyX3_ok nmX3 0 5 ([(h0, .inr (3, [.ref (af 100), .ref u6, .ref u9, .null, .ref q11, .ref q12, .long 0, .long 0, .int 0, .int 0, .int 0, .int 0]))] ++ (wF cA af (clr (fun _ _ => 0))) ++ [(u6, .inl (cA 0, 16, .inl (fl (fun _ => 0) 16 (-1))))] ++ [(u9, .inl (cA 0, 16, .inl (fl (fun _ => 0) 16 (-1))))] ++ [(q11, .inl (cA 3, 2, .inr (.inr (.inr (.inr (fun _ => none))))))] ++ [(q12, .inl (cA 0, 16, .inl (fun _ => 0)))]) rfl rfl (by decide) wfX3_35 rfl rfl rfl rfl rfl (Nat.le_of_ble_eq_true rfl) rfl dX3_init_42 ?_
  refine x_aload_n F 0 dX3_init_45 rfl ?_
  refine x_lconst F 0 dX3_init_46 (by decide +kernel) ?_
  refine x_put F inUX3 tyX3_ok nmX3 0 6 ([(h0, .inr (3, [.ref (af 100), .ref u6, .ref u9, .null, .ref q11, .ref q12, .long 0, .long 0, .int 0, .int 0, .int 0, .int 0]))] ++ (wF cA af (clr (fun _ _ => 0))) ++ [(u6, .inl (cA 0, 16, .inl (fl (fun _ => 0) 16 (-1))))] ++ [(u9, .inl (cA 0, 16, .inl (fl (fun _ => 0) 16 (-1))))] ++ [(q11, .inl (cA 3, 2, .inr (.inr (.inr (.inr (fun _ => none))))))] ++ [(q12, .inl (cA 0, 16, .inl (fun _ => 0)))]) rfl rfl (by decide) wfX3_38 rfl rfl rfl rfl (Nat.le_of_ble_eq_true rfl) rfl dX3_init_47 ?_
  refine x_aload_n F 0 dX3_init_50 rfl ?_
  refine x_lconst F 0 dX3_init_51 (by decide +kernel) ?_
  refine x_put F inUX3 tyX3_ok nmX3 0 7 ([(h0, .inr (3, [.ref (af 100), .ref u6, .ref u9, .null, .ref q11, .ref q12, .long 0, .long 0, .int 0, .int 0, .int 0, .int 0]))] ++ (wF cA af (clr (fun _ _ => 0))) ++ [(u6, .inl (cA 0, 16, .inl (fl (fun _ => 0) 16 (-1))))] ++ [(u9, .inl (cA 0, 16, .inl (fl (fun _ => 0) 16 (-1))))] ++ [(q11, .inl (cA 3, 2, .inr (.inr (.inr (.inr (fun _ => none))))))] ++ [(q12, .inl (cA 0, 16, .inl (fun _ => 0)))]) rfl rfl (by decide) wfX3_42 rfl rfl rfl rfl (Nat.le_of_ble_eq_true rfl) rfl dX3_init_52 ?_
  refine x_aload_n F 0 dX3_init_55 rfl ?_
  refine x_iconst F (nI 0) dX3_init_56 (by decide +kernel) ?_
  refine x_put F inUX3 tyX3_ok nmX3 0 8 ([(h0, .inr (3, [.ref (af 100), .ref u6, .ref u9, .null, .ref q11, .ref q12, .long 0, .long 0, .int (nI 0), .int 0, .int 0, .int 0]))] ++ (wF cA af (clr (fun _ _ => 0))) ++ [(u6, .inl (cA 0, 16, .inl (fl (fun _ => 0) 16 (-1))))] ++ [(u9, .inl (cA 0, 16, .inl (fl (fun _ => 0) 16 (-1))))] ++ [(q11, .inl (cA 3, 2, .inr (.inr (.inr (.inr (fun _ => none))))))] ++ [(q12, .inl (cA 0, 16, .inl (fun _ => 0)))]) rfl rfl (by decide) wfX3_45 rfl rfl rfl rfl (Nat.le_of_ble_eq_true rfl) rfl dX3_init_57 ?_
  refine x_aload_n F 0 dX3_init_60 rfl ?_
  refine x_iconst F (nI 0) dX3_init_61 (by decide +kernel) ?_
  refine x_put F inUX3 tyX3_ok nmX3 0 10 ([(h0, .inr (3, [.ref (af 100), .ref u6, .ref u9, .null, .ref q11, .ref q12, .long 0, .long 0, .int (nI 0), .int 0, .int (nI 0), .int 0]))] ++ (wF cA af (clr (fun _ _ => 0))) ++ [(u6, .inl (cA 0, 16, .inl (fl (fun _ => 0) 16 (-1))))] ++ [(u9, .inl (cA 0, 16, .inl (fl (fun _ => 0) 16 (-1))))] ++ [(q11, .inl (cA 3, 2, .inr (.inr (.inr (.inr (fun _ => none))))))] ++ [(q12, .inl (cA 0, 16, .inl (fun _ => 0)))]) rfl rfl (by decide) wfX3_49 rfl rfl rfl rfl (Nat.le_of_ble_eq_true rfl) rfl dX3_init_62 ?_
  refine x_aload_n F 0 dX3_init_65 rfl ?_
  refine x_iconst F (nI 0) dX3_init_66 (by decide +kernel) ?_
  refine x_put F inUX3 tyX3_ok nmX3 0 11 ([(h0, .inr (3, [.ref (af 100), .ref u6, .ref u9, .null, .ref q11, .ref q12, .long 0, .long 0, .int (nI 0), .int 0, .int (nI 0), .int (nI 0)]))] ++ (wF cA af (clr (fun _ _ => 0))) ++ [(u6, .inl (cA 0, 16, .inl (fl (fun _ => 0) 16 (-1))))] ++ [(u9, .inl (cA 0, 16, .inl (fl (fun _ => 0) 16 (-1))))] ++ [(q11, .inl (cA 3, 2, .inr (.inr (.inr (.inr (fun _ => none))))))] ++ [(q12, .inl (cA 0, 16, .inl (fun _ => 0)))]) rfl rfl (by decide) wfX3_52 rfl rfl rfl rfl (Nat.le_of_ble_eq_true rfl) rfl dX3_init_67 ?_
  refine x_aload_n F 0 dX3_init_70 rfl ?_
  refine x_iload_n F 1 dX3_init_71 rfl ?_
  refine x_put F inUX3 tyX3_ok nmX3 0 9 ([(h0, .inr (3, [.ref (af 100), .ref u6, .ref u9, .null, .ref q11, .ref q12, .long 0, .long 0, .int (nI 0), .int seed, .int (nI 0), .int (nI 0)]))] ++ (wF cA af (clr (fun _ _ => 0))) ++ [(u6, .inl (cA 0, 16, .inl (fl (fun _ => 0) 16 (-1))))] ++ [(u9, .inl (cA 0, 16, .inl (fl (fun _ => 0) 16 (-1))))] ++ [(q11, .inl (cA 3, 2, .inr (.inr (.inr (.inr (fun _ => none))))))] ++ [(q12, .inl (cA 0, 16, .inl (fun _ => 0)))]) rfl rfl (by decide) wfX3_55 rfl rfl rfl rfl (Nat.le_of_ble_eq_true rfl) rfl dX3_init_72 ?_
  refine x_aload_n F 0 dX3_init_75 rfl ?_
  refine x_iload_n F 2 dX3_init_76 rfl ?_
  refine x_newJ F (k := L) wa_long (by omega) (by show _ ≤ 15; omega) (by show _ ≤ 183; omega) dX3_init_77 (fun q13 => ?_)
  refine x_putF F hnm inUX3 tyX3_ok nmX3 0 3 ([(h0, .inr (3, [.ref (af 100), .ref u6, .ref u9, .ref q13, .ref q11, .ref q12, .long 0, .long 0, .int (nI 0), .int seed, .int (nI 0), .int (nI 0)]))] ++ (wF cA af (clr (fun _ _ => 0))) ++ [(u6, .inl (cA 0, 16, .inl (fl (fun _ => 0) 16 (-1))))] ++ [(u9, .inl (cA 0, 16, .inl (fl (fun _ => 0) 16 (-1))))] ++ [(q11, .inl (cA 3, 2, .inr (.inr (.inr (.inr (fun _ => none))))))] ++ [(q12, .inl (cA 0, 16, .inl (fun _ => 0)))] ++ [(q13, .inl (cA 1, L, .inr (.inl (fun _ => 0))))]) rfl rfl (by decide) wfX3_58 rfl rfl rfl rfl rfl (Nat.le_of_ble_eq_true rfl) rfl dX3_init_79 ?_
  refine x_sub ([(h0, .inr (3, [.ref (af 100), .ref u6, .ref u9, .ref q13, .ref q11, .ref q12, .long 0, .long 0, .int (nI 0), .int seed, .int (nI 0), .int (nI 0)]))] ++ [(u6, .inl (cA 0, 16, .inl (fl (fun _ => 0) 16 (-1))))] ++ [(u9, .inl (cA 0, 16, .inl (fl (fun _ => 0) 16 (-1))))] ++ [(q13, .inl (cA 1, L, .inr (.inl (fun _ => 0))))] ++ [(q11, .inl (cA 3, 2, .inr (.inr (.inr (.inr (fun _ => none))))))] ++ [(q12, .inl (cA 0, 16, .inl (fun _ => 0)))] ++ (wF cA af (clr (fun _ _ => 0)))) [0, 11, 12, 15, 13, 14, 1, 2, 3, 4, 5, 6, 7, 8, 9, 10] rfl (by decide) ?_
  refine x_ws ((wS cA (adS h0 u6 u9 q13 q11 q12) (af 100) L (newS seed) (fun _ _ => 0) (fun _ => none)) ++ (wF cA af (clr (fun _ _ => 0)))) rfl ?_
  exact x_vret F ((adS h0 u6 u9 q13 q11 q12), af) (⟨rfl, rfl⟩) (rfl) (by omega) (by omega) dX3_init_82

set_option maxHeartbeats 4000000 in
set_option maxRecDepth 100000 in
theorem c_X4_solve_b (l : Launch) (D : va_G) (cA : Nat → ClassId) (ax : Nat → Nat) (lo la ot : Nat) (MX : Nat → Nat → Int32) (sv : Nat → Option Nat) (p1 p2 : Int32) (hb : ¬ (nI 1 ≤ p2 ∧ p2 ≤ nI 8)) : Cr l D cA yX4_solve cX4_solve 3 (some .int) 4 ([.ref (ax 100), .int p1, .int p2] : List Value) (wX cA ax lo la ot MX sv) (fun r : Option Value => r = some (.int (-2))) := by
  refine x_met (by decide +kernel) rfl (Nat.le_of_ble_eq_true rfl) ?_
  intro xp xe xs xm xbl xme xco F hnm
  refine x_lv [(0, .ref (ax 100)), (1, .int p1), (2, .int p2)] [0, 1, 2] rfl ?_
  refine x_iload_n F 2 dX4_solve_0 rfl ?_
  refine x_iconst F (nI 1) dX4_solve_1 (by decide +kernel) ?_
  refine x_bipush F (nI 8) dX4_solve_2 (by decide +kernel) ?_
  refine x_callSr F [] [] (c_X4_isWithin l D cA p2 (nI 1) (nI 8)) mwX4_isWithin wmX4_54 rfl rfl (Nat.le_of_ble_eq_true rfl) ⟨by decide, by decide⟩ ⟨by show _ ≤ 0; omega, by show _ ≤ 0; omega⟩ rfl (by decide) dX4_solve_4 (fun r1 hp2 => ?_)
  subst hp2
  refine x_if_ne F 13 dX4_solve_7 (by decide) (fun h7 => ?_) (fun h7 => ?_)
  · exact absurd (bz_n0.mp h7) hb
  · refine x_bipush F (-2) dX4_solve_10 (by decide +kernel) ?_
    exact x_iret F () (rfl) (rfl) (by omega) (by omega) dX4_solve_12

set_option maxHeartbeats 4000000 in
set_option maxRecDepth 100000 in
theorem c_X4_solve_f (l : Launch) (D : va_G) (cA : Nat → ClassId) (ax : Nat → Nat) (lo la ot : Nat) (MX : Nat → Nat → Int32) (sv : Nat → Option Nat) (p1 p2 : Int32) (hb : nI 1 ≤ p2 ∧ p2 ≤ nI 8) (hns : MX 4 0 = nI 3) : Cr l D cA yX4_solve cX4_solve 3 (some .int) 4 ([.ref (ax 100), .int p1, .int p2] : List Value) (wX cA ax lo la ot MX sv) (fun r : Option Value => r = some (.int (-4))) := by
  refine x_met (by decide +kernel) rfl (Nat.le_of_ble_eq_true rfl) ?_
  intro xp xe xs xm xbl xme xco F hnm
  refine x_lv [(0, .ref (ax 100)), (1, .int p1), (2, .int p2)] [0, 1, 2] rfl ?_
  refine x_iload_n F 2 dX4_solve_0 rfl ?_
  refine x_iconst F (nI 1) dX4_solve_1 (by decide +kernel) ?_
  refine x_bipush F (nI 8) dX4_solve_2 (by decide +kernel) ?_
  refine x_callSr F [] [] (c_X4_isWithin l D cA p2 (nI 1) (nI 8)) mwX4_isWithin wmX4_54 rfl rfl (Nat.le_of_ble_eq_true rfl) ⟨by decide, by decide⟩ ⟨by show _ ≤ 0; omega, by show _ ≤ 0; omega⟩ rfl (by decide) dX4_solve_4 (fun r1 hp2 => ?_)
  subst hp2
  refine x_if_ne F 13 dX4_solve_7 (by decide) (fun h7 => ?_) (fun h7 => ?_)
  · refine x_aload_n F 0 dX4_solve_13 rfl ?_
    refine x_get F inUX4 0 4 rfl rfl (by decide) wfX4_32 rfl dX4_solve_14 ?_
    refine x_top (nI 3) (hns) ?_
    refine x_iconst F (nI 3) dX4_solve_17 (by decide +kernel) ?_
    refine x_icmp_lt F 24 dX4_solve_18 (by decide) (fun h18 => ?_) (fun h18 => ?_)
    · have h18n : 3 < 3 := (nI_ltI (by decide) (by decide)).mp h18
      exact absurd h18n (by decide)
    · have h18n : ¬ 3 < 3 := fun z => h18 ((nI_ltI (by decide) (by decide)).mpr z)
      refine x_bipush F (-4) dX4_solve_21 (by decide +kernel) ?_
      exact x_iret F () (rfl) (rfl) (by omega) (by omega) dX4_solve_23
  · exact absurd hb (bz_0.mp h7)

set_option maxHeartbeats 4000000 in
set_option maxRecDepth 100000 in
theorem c_X4_solve_ok (l : Launch) (D : va_G) (cA : Nat → ClassId) (ax : Nat → Nat) (lo la ot : Nat) (MX : Nat → Nat → Int32) (sv : Nat → Option Nat) (ns L : Nat) (p1 : Int32) (hns : MX 4 0 = nI ns) (hn3 : ns < 3) (hL1 : 1 ≤ L) (hL : L ≤ 8) : Cg l D cA yX4_solve cX4_solve 3 (some .int) 4 16 195 ([.ref (ax 100), .int p1, .int (nI L)] : List Value) (wX cA ax lo la ot MX sv) (fun (r : Option Value) (u : (Nat → Nat) × (Nat → Nat)) => r = some (.int (nI ns))) (fun u : (Nat → Nat) × (Nat → Nat) => (wX cA ax lo la ot (st2 MX 4 0 (nI (ns + 1))) (va_up sv ns (some (u.1 100)))) ++ (wS cA u.1 (u.2 100) L (newS p1) (fun _ _ => 0) (fun _ => none)) ++ (wF cA u.2 (clr (fun _ _ => 0)))) := by
  refine x_met (by decide +kernel) rfl (Nat.le_of_ble_eq_true rfl) ?_
  intro xp xe xs xm xbl xme xco F hnm
  refine x_lv [(0, .ref (ax 100)), (1, .int p1), (2, .int (nI L))] [0, 1, 2] rfl ?_
  refine x_iload_n F 2 dX4_solve_0 rfl ?_
  refine x_iconst F (nI 1) dX4_solve_1 (by decide +kernel) ?_
  refine x_bipush F (nI 8) dX4_solve_2 (by decide +kernel) ?_
  refine x_callSr F [] [] (c_X4_isWithin l D cA (nI L) (nI 1) (nI 8)) mwX4_isWithin wmX4_54 rfl rfl (Nat.le_of_ble_eq_true rfl) ⟨by decide, by decide⟩ ⟨by show _ ≤ 16; omega, by show _ ≤ 195; omega⟩ rfl (by decide) dX4_solve_4 (fun r1 hp2 => ?_)
  subst hp2
  refine x_if_ne F 13 dX4_solve_7 (by decide) (fun h7 => ?_) (fun h7 => ?_)
  · refine x_aload_n F 0 dX4_solve_13 rfl ?_
    refine x_get F inUX4 0 4 rfl rfl (by decide) wfX4_32 rfl dX4_solve_14 ?_
    refine x_top (nI ns) (hns) ?_
    refine x_iconst F (nI 3) dX4_solve_17 (by decide +kernel) ?_
    refine x_icmp_lt F 24 dX4_solve_18 (by decide) (fun h18 => ?_) (fun h18 => ?_)
    · have h18n : ns < 3 := (nI_ltI (by omega) (by decide)).mp h18
      refine x_aload_n F 0 dX4_solve_24 rfl ?_
      refine x_get F inUX4 0 3 rfl rfl (by decide) wfX4_28 rfl dX4_solve_25 ?_
      refine x_aload_n F 0 dX4_solve_28 rfl ?_
      refine x_get F inUX4 0 4 rfl rfl (by decide) wfX4_32 rfl dX4_solve_29 ?_
      refine x_top (nI ns) (hns) ?_
      refine x_new F [.null, .null, .null, .null, .null, .null, .long 0, .long 0, .int 0, .int 0, .int 0, .int 0] inUX3 tyX3_ok wkX4_26 wjX3 wnX3 (ci := 3) rfl (by intro j hj; match j, hj with | 0, _ => rfl | 1, _ => rfl | 2, _ => rfl | 3, _ => rfl | 4, _ => rfl | 5, _ => rfl | 6, _ => rfl | 7, _ => rfl | 8, _ => rfl | 9, _ => rfl | 10, _ => rfl | 11, _ => rfl | j + 12, h => omega) (by show _ ≤ 16; omega) (by show _ ≤ 195; omega) dX4_solve_32 (fun q3 => ?_)
      refine x_dup F dX4_solve_35 rfl ?_
      refine x_iload_n F 1 dX4_solve_36 rfl ?_
      refine x_iload_n F 2 dX4_solve_37 rfl ?_
      refine x_callI F [.ref q3, .int (nI ns), .ref (ax 3)] (wX cA ax lo la ot MX sv) [2] [0, 1] (c_X3_init l D cA q3 L p1 hL) mwX3_init wmX4_65 rfl rfl (Nat.le_of_ble_eq_true rfl) ⟨by decide, by decide⟩ ⟨by show _ ≤ 16; omega, by show _ ≤ 195; omega⟩ rfl rfl (by decide) (by decide) (by decide) dX4_solve_38 (fun r4 u5 hp6 => ?_)
      obtain ⟨an, af⟩ := u5
      obtain ⟨rfl, han⟩ := hp6
      have han : an 100 = q3 := han
      subst han
      refine x_ws ((wX cA ax lo la ot MX sv) ++ (wS cA an (af 100) L (newS p1) (fun _ _ => 0) (fun _ => none)) ++ (wF cA af (clr (fun _ _ => 0)))) rfl ?_
      refine x_aast4 F 1 2 (k := ns) ((wX cA ax lo la ot MX (va_up sv ns (some (an 100)))) ++ (wS cA an (af 100) L (newS p1) (fun _ _ => 0) (fun _ => none)) ++ (wF cA af (clr (fun _ _ => 0)))) rfl rfl (by omega) (by decide) rfl dX4_solve_41 ?_
      refine x_aload_n F 0 dX4_solve_42 rfl ?_
      refine x_dup F dX4_solve_43 rfl ?_
      refine x_get F inUX4 0 4 rfl rfl (by decide) wfX4_32 rfl dX4_solve_44 ?_
      refine x_top (nI ns) (hns) ?_
      refine x_iconst F (nI 1) dX4_solve_47 (by decide +kernel) ?_
      refine x_iadd F (nI (ns + 1)) dX4_solve_48 (nI_add _ _) ?_
      refine x_put F inUX4 tyX4_ok nmX4 0 4 ((wX cA ax lo la ot (st2 MX 4 0 (nI (ns + 1))) (va_up sv ns (some (an 100)))) ++ (wS cA an (af 100) L (newS p1) (fun _ _ => 0) (fun _ => none)) ++ (wF cA af (clr (fun _ _ => 0)))) rfl rfl (by decide) wfX4_32 rfl rfl rfl rfl (Nat.le_of_ble_eq_true rfl) rfl dX4_solve_49 ?_
      refine x_aload_n F 0 dX4_solve_52 rfl ?_
      refine x_get F inUX4 0 4 rfl rfl (by decide) wfX4_32 rfl dX4_solve_53 ?_
      refine x_top (nI (ns + 1)) (rfl) ?_
      refine x_iconst F (nI 1) dX4_solve_56 (by decide +kernel) ?_
      refine x_isub F ((nI (ns + 1)) - (nI 1)) dX4_solve_57 rfl ?_
      refine x_top (nI ns) (nI_pred ns) ?_
      exact x_iret F (an, af) (rfl) (rfl) (by omega) (by omega) dX4_solve_58
    · have h18n : ¬ ns < 3 := fun z => h18 ((nI_ltI (by omega) (by decide)).mpr z)
      exact absurd hn3 h18n
  · exact absurd ⟨nI_le hL1 (by omega), nI_le hL (by decide)⟩ (bz_0.mp h7)

set_option maxHeartbeats 4000000 in
set_option maxRecDepth 100000 in
theorem c_X4_change (l : Launch) (D : va_G) (cA : Nat → ClassId) (ax : Nat → Nat) (la ot : Nat) (MX : Nat → Nat → Int32) (sv : Nat → Option Nat) (al : Nat → Nat) (ML : Nat → Nat → Int32) (cnt : Nat) (p1 : Int32) (hc : ML 5 0 = nI cnt) (hcn : cnt ≤ 120) : Cr l D cA yX4_change cX4_change 2 (some .int) 1 ([.ref (ax 100), .int p1] : List Value) ((wX cA ax (al 100) la ot MX sv) ++ (wL cA al ML)) (fun r : Option Value => (¬ (nI 1 ≤ p1 ∧ p1 ≤ nI cnt) → r = some (.int (-2))) ∧ (∀ i : Nat, i < cnt → p1 = nI (i + 1) → r = some (.int (ML 0 i)))) := by
  refine x_met (by decide +kernel) rfl (Nat.le_of_ble_eq_true rfl) ?_
  intro xp xe xs xm xbl xme xco F hnm
  refine x_lv [(0, .ref (ax 100)), (1, .int p1)] [0, 1] rfl ?_
  refine x_iload_n F 1 dX4_change_0 rfl ?_
  refine x_iconst F (nI 1) dX4_change_1 (by decide +kernel) ?_
  refine x_aload_n F 0 dX4_change_2 rfl ?_
  refine x_get F inUX4 0 0 rfl rfl (by decide) wfX4_10 rfl dX4_change_3 ?_
  refine x_get F inUX1 2 5 rfl rfl (by decide) wfX4_72 rfl dX4_change_6 ?_
  refine x_top (nI cnt) (hc) ?_
  refine x_callSr F [] [] (c_X4_isWithin l D cA p1 (nI 1) (nI cnt)) mwX4_isWithin wmX4_54 rfl rfl (Nat.le_of_ble_eq_true rfl) ⟨by decide, by decide⟩ ⟨by show _ ≤ 0; omega, by show _ ≤ 0; omega⟩ rfl (by decide) dX4_change_9 (fun r1 hp2 => ?_)
  subst hp2
  refine x_if_eq F 29 dX4_change_12 (by decide) (fun h12 => ?_) (fun h12 => ?_)
  · refine x_bipush F (-2) dX4_change_29 (by decide +kernel) ?_
    exact x_iret F () (⟨fun _ => rfl, fun i hi e => absurd (by rw [e]; exact wn1_in hi (by omega)) (bz_0.mp h12)⟩) (rfl) (by omega) (by omega) dX4_change_31
  · have hin := bz_n0.mp h12
    obtain ⟨i, hi, rfl⟩ := wn1 (by omega) hin
    refine x_aload_n F 0 dX4_change_15 rfl ?_
    refine x_get F inUX4 0 0 rfl rfl (by decide) wfX4_10 rfl dX4_change_16 ?_
    refine x_get F inUX1 2 0 rfl rfl (by decide) wfX4_168 rfl dX4_change_19 ?_
    refine x_iload_n F 1 dX4_change_22 rfl ?_
    refine x_iconst F (nI 1) dX4_change_23 (by decide +kernel) ?_
    refine x_isub F ((nI (i + 1)) - (nI 1)) dX4_change_24 rfl ?_
    refine x_top (nI i) (nI_pred i) ?_
    refine x_iald F 3 (k := i) rfl (by omega) (by decide) dX4_change_25 ?_
    refine x_goto F 31 dX4_change_26 (by decide) ?_
    exact x_iret F () (⟨fun z => absurd hin z, fun i2 hi2 e => by rw [show i = i2 from by have := (nI_eq (by omega) (by omega)).mp e; omega]⟩) (rfl) (by omega) (by omega) dX4_change_31

def adX (h q3 : Nat) : Nat → Nat := fun k => match k with
  | 3 => q3 | _ => h
set_option maxHeartbeats 4000000 in
set_option maxRecDepth 100000 in
theorem c_X4_init (l : Launch) (D : va_G) (cA : Nat → ClassId) (h0 : Nat)  : Cg l D cA yX4_init cX4_init 1 none 3 27 859 ([.ref h0] : List Value) ([(h0, .inr (4, [.null, .null, .null, .null, .int 0]))]) (fun (r : Option Value) (u : (Nat → Nat) × (Nat → Nat) × (Nat → Nat) × (Nat → Nat)) => r = none ∧ u.1 100 = h0) (fun u : (Nat → Nat) × (Nat → Nat) × (Nat → Nat) × (Nat → Nat) => (wX cA u.1 (u.2.1 100) (u.2.2.1 100) (u.2.2.2 100) (fun _ _ => 0) (fun _ => none)) ++ (wL cA u.2.1 (fun _ _ => 0)) ++ (wF cA u.2.2.1 (clr (fun _ _ => 0))) ++ (wF cA u.2.2.2 (clr (fun _ _ => 0)))) := by
  refine x_met (by decide +kernel) rfl (Nat.le_of_ble_eq_true rfl) ?_
  intro xp xe xs xm xbl xme xco F hnm
  refine x_lv [(0, .ref h0)] [0] rfl ?_
  refine x_aload_n F 0 dX4_init_0 rfl ?_
  refine x_objInit F wmX4_1 wiJO_init wcJO_init (by decide) (Nat.le_of_ble_eq_true rfl) dX4_init_1 ?_
  refine x_aload_n F 0 dX4_init_4 rfl ?_
  refine x_new F [.null, .null, .null, .null, .null, .int 0] inUX1 tyX1_ok wkX4_7 wjX1 wnX1 (ci := 1) rfl (by intro j hj; match j, hj with | 0, _ => rfl | 1, _ => rfl | 2, _ => rfl | 3, _ => rfl | 4, _ => rfl | 5, _ => rfl | j + 6, h => omega) (by show _ ≤ 27; omega) (by show _ ≤ 859; omega) dX4_init_5 (fun q1 => ?_)
  refine x_dup F dX4_init_8 rfl ?_
  refine x_callIN F [.ref q1, .ref h0] ([(h0, .inr (4, [.null, .null, .null, .null, .int 0]))]) [1] [0] (c_X1_init l D cA q1) mwX1_init F.2.1.2.1.1 rfl rfl (Nat.le_of_ble_eq_true rfl) ⟨by decide, by decide⟩ ⟨by show _ ≤ 27; omega, by show _ ≤ 859; omega⟩ rfl rfl (by decide) (by decide) (by decide) dX4_init_9 (fun r2 u3 hp4 => ?_)
  obtain ⟨ag, eag⟩ : ∃ z, z = u3 := ⟨_, rfl⟩
  obtain ⟨rfl, hag⟩ := hp4
  rw [← eag] at hag ⊢
  subst hag
  refine x_ws ([(h0, .inr (4, [.null, .null, .null, .null, .int 0]))] ++ (wL cA ag (fun _ _ => 0))) rfl ?_
  refine x_putF F hnm inUX4 tyX4_ok nmX4 0 0 ([(h0, .inr (4, [.ref (ag 100), .null, .null, .null, .int 0]))] ++ (wL cA ag (fun _ _ => 0))) rfl rfl (by decide) wfX4_10 rfl rfl rfl rfl rfl (Nat.le_of_ble_eq_true rfl) rfl dX4_init_12 ?_
  refine x_aload_n F 0 dX4_init_15 rfl ?_
  refine x_new F [.int 0, .int 0, .null, .null, .null, .null, .null, .null, .null, .null, .null] inUX0 tyX0_ok wkX4_16 wjX0 wnX0 (ci := 0) rfl (by intro j hj; match j, hj with | 0, _ => rfl | 1, _ => rfl | 2, _ => rfl | 3, _ => rfl | 4, _ => rfl | 5, _ => rfl | 6, _ => rfl | 7, _ => rfl | 8, _ => rfl | 9, _ => rfl | 10, _ => rfl | j + 11, h => omega) (by show _ ≤ 27; omega) (by show _ ≤ 859; omega) dX4_init_16 (fun q5 => ?_)
  refine x_dup F dX4_init_19 rfl ?_
  refine x_callI F [.ref q5, .ref h0] ([(h0, .inr (4, [.ref (ag 100), .null, .null, .null, .int 0]))] ++ (wL cA ag (fun _ _ => 0))) [7] [0, 1, 2, 3, 4, 5, 6] (c_X0_init l D cA q5) mwX0_init wmX4_18 rfl rfl (Nat.le_of_ble_eq_true rfl) ⟨by decide, by decide⟩ ⟨by show _ ≤ 27; omega, by show _ ≤ 859; omega⟩ rfl rfl (by decide) (by decide) (by decide) dX4_init_20 (fun r6 u7 hp8 => ?_)
  obtain ⟨af, maf⟩ := u7
  obtain ⟨rfl, haf, hmaf⟩ := hp8
  have haf : af 100 = q5 := haf
  have hmaf : maf = clr (fun _ _ => 0) := hmaf
  subst haf
  subst hmaf
  refine x_ws ([(h0, .inr (4, [.ref (ag 100), .null, .null, .null, .int 0]))] ++ (wL cA ag (fun _ _ => 0)) ++ (wF cA af (clr (fun _ _ => 0)))) rfl ?_
  refine x_putF F hnm inUX4 tyX4_ok nmX4 0 1 ([(h0, .inr (4, [.ref (ag 100), .ref (af 100), .null, .null, .int 0]))] ++ (wL cA ag (fun _ _ => 0)) ++ (wF cA af (clr (fun _ _ => 0)))) rfl rfl (by decide) wfX4_19 rfl rfl rfl rfl rfl (Nat.le_of_ble_eq_true rfl) rfl dX4_init_23 ?_
  refine x_aload_n F 0 dX4_init_26 rfl ?_
  refine x_new F [.int 0, .int 0, .null, .null, .null, .null, .null, .null, .null, .null, .null] inUX0 tyX0_ok wkX4_16 wjX0 wnX0 (ci := 0) rfl (by intro j hj; match j, hj with | 0, _ => rfl | 1, _ => rfl | 2, _ => rfl | 3, _ => rfl | 4, _ => rfl | 5, _ => rfl | 6, _ => rfl | 7, _ => rfl | 8, _ => rfl | 9, _ => rfl | 10, _ => rfl | j + 11, h => omega) (by show _ ≤ 27; omega) (by show _ ≤ 859; omega) dX4_init_27 (fun q9 => ?_)
  refine x_dup F dX4_init_30 rfl ?_
  refine x_callI F [.ref q9, .ref h0] ([(h0, .inr (4, [.ref (ag 100), .ref (af 100), .null, .null, .int 0]))] ++ (wL cA ag (fun _ _ => 0)) ++ (wF cA af (clr (fun _ _ => 0)))) [17] [0, 1, 2, 3, 4, 5, 6, 7, 8, 9, 10, 11, 12, 13, 14, 15, 16] (c_X0_init l D cA q9) mwX0_init wmX4_18 rfl rfl (Nat.le_of_ble_eq_true rfl) ⟨by decide, by decide⟩ ⟨by show _ ≤ 27; omega, by show _ ≤ 859; omega⟩ rfl rfl (by decide) (by decide) (by decide) dX4_init_31 (fun r10 u11 hp12 => ?_)
  obtain ⟨ah, mah⟩ := u11
  obtain ⟨rfl, hah, hmah⟩ := hp12
  have hah : ah 100 = q9 := hah
  have hmah : mah = clr (fun _ _ => 0) := hmah
  subst hah
  subst hmah
  refine x_ws ([(h0, .inr (4, [.ref (ag 100), .ref (af 100), .null, .null, .int 0]))] ++ (wL cA ag (fun _ _ => 0)) ++ (wF cA af (clr (fun _ _ => 0))) ++ (wF cA ah (clr (fun _ _ => 0)))) rfl ?_
  refine x_putF F hnm inUX4 tyX4_ok nmX4 0 2 ([(h0, .inr (4, [.ref (ag 100), .ref (af 100), .ref (ah 100), .null, .int 0]))] ++ (wL cA ag (fun _ _ => 0)) ++ (wF cA af (clr (fun _ _ => 0))) ++ (wF cA ah (clr (fun _ _ => 0)))) rfl rfl (by decide) wfX4_23 rfl rfl rfl rfl rfl (Nat.le_of_ble_eq_true rfl) rfl dX4_init_34 ?_
  refine x_aload_n F 0 dX4_init_37 rfl ?_
  refine x_iconst F (nI 3) dX4_init_38 (by decide +kernel) ?_
  refine x_newQ4 F (k := 3) wkX4_26 (by omega) (by show _ ≤ 27; omega) (by show _ ≤ 859; omega) dX4_init_39 (fun q13 => ?_)
  refine x_putF F hnm inUX4 tyX4_ok nmX4 0 3 ([(h0, .inr (4, [.ref (ag 100), .ref (af 100), .ref (ah 100), .ref q13, .int 0]))] ++ (wL cA ag (fun _ _ => 0)) ++ (wF cA af (clr (fun _ _ => 0))) ++ (wF cA ah (clr (fun _ _ => 0))) ++ [(q13, .inl (cA 4, 3, .inr (.inr (.inr (.inr (fun _ => none))))))]) rfl rfl (by decide) wfX4_28 rfl rfl rfl rfl rfl (Nat.le_of_ble_eq_true rfl) rfl dX4_init_42 ?_
  refine x_aload_n F 0 dX4_init_45 rfl ?_
  refine x_iconst F (nI 0) dX4_init_46 (by decide +kernel) ?_
  refine x_put F inUX4 tyX4_ok nmX4 0 4 ([(h0, .inr (4, [.ref (ag 100), .ref (af 100), .ref (ah 100), .ref q13, .int (nI 0)]))] ++ (wL cA ag (fun _ _ => 0)) ++ (wF cA af (clr (fun _ _ => 0))) ++ (wF cA ah (clr (fun _ _ => 0))) ++ [(q13, .inl (cA 4, 3, .inr (.inr (.inr (.inr (fun _ => none))))))]) rfl rfl (by decide) wfX4_32 rfl rfl rfl rfl (Nat.le_of_ble_eq_true rfl) rfl dX4_init_47 ?_
  refine x_sub ([(h0, .inr (4, [.ref (ag 100), .ref (af 100), .ref (ah 100), .ref q13, .int (nI 0)]))] ++ [(q13, .inl (cA 4, 3, .inr (.inr (.inr (.inr (fun _ => none))))))] ++ (wL cA ag (fun _ _ => 0)) ++ (wF cA af (clr (fun _ _ => 0))) ++ (wF cA ah (clr (fun _ _ => 0)))) [0, 27, 1, 2, 3, 4, 5, 6, 7, 8, 9, 10, 11, 12, 13, 14, 15, 16, 17, 18, 19, 20, 21, 22, 23, 24, 25, 26] rfl (by decide) ?_
  refine x_ws ((wX cA (adX h0 q13) (ag 100) (af 100) (ah 100) (fun _ _ => 0) (fun _ => none)) ++ (wL cA ag (fun _ _ => 0)) ++ (wF cA af (clr (fun _ _ => 0))) ++ (wF cA ah (clr (fun _ _ => 0)))) rfl ?_
  exact x_vret F ((adX h0 q13), ag, af, ah) (⟨rfl, rfl⟩) (rfl) (by omega) (by omega) dX4_init_50

