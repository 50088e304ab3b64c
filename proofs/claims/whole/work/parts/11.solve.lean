/-! the class's Solve and Mark -/
theorem xor_nn {a b : Nat} (ha : a < 2 ^ 31) (hb : b < 2 ^ 31) : 0 ≤ nI a ^^^ nI b := by
  have e : nI a ^^^ nI b = nI (a ^^^ b) := by
    apply Int32.toBitVec_inj.mp
    apply BitVec.eq_of_toNat_eq
    rw [show (nI a ^^^ nI b).toBitVec = (nI a).toBitVec ^^^ (nI b).toBitVec from rfl, BitVec.toNat_xor, pk_tn (by omega), pk_tn (by omega), pk_tn (Nat.lt_of_lt_of_le (Nat.xor_lt_two_pow ha hb) (by decide))]
  rw [e]
  exact nI_pos' (Nat.xor_lt_two_pow ha hb)
set_option maxHeartbeats 4000000 in
set_option maxRecDepth 100000 in
theorem c_J9_floorMod_7cf53 (l : Launch) (D : va_G) (cA : Nat → ClassId) (t L : Nat) (ht : t < 2 ^ 31) (hL : 0 < L) (hL2 : L < 2 ^ 31) : Cr l D cA yJ9_floorMod_7cf53 cJ9_floorMod_7cf53 3 (some .int) 0 ([.int (nI t), .int (nI L)] : List Value) ([]) (fun r : Option Value => r = some (.int (nI (t % L)))) := by
  refine x_metF (by decide +kernel) rfl (Nat.le_of_ble_eq_true rfl) ?_
  intro xp xe xs xm xbl xme xco F hnm
  refine x_lv [(0, .int (nI t)), (1, .int (nI L))] [0, 1] rfl ?_
  refine x_iload_n F 0 dJ9_floorMod_7cf53_0 rfl ?_
  refine x_iload_n F 1 dJ9_floorMod_7cf53_1 rfl ?_
  refine x_irem F ((nI t) - (nI t) / (nI L) * (nI L)) dJ9_floorMod_7cf53_2 (nI_ne0 hL hL2) rfl ?_
  refine x_top (nI (t % L)) (pk_rem ht hL hL2) ?_
  refine x_istore_n F [(2, .int (nI (t % L))), (0, .int (nI t)), (1, .int (nI L))] dJ9_floorMod_7cf53_3 (by decide) rfl ?_
  refine x_iload_n F 1 dJ9_floorMod_7cf53_4 rfl ?_
  refine x_iload_n F 2 dJ9_floorMod_7cf53_5 rfl ?_
  refine x_ixor F ((nI t) ^^^ (nI L)) dJ9_floorMod_7cf53_6 rfl ?_
  refine x_if_ge F 18 dJ9_floorMod_7cf53_7 (by decide) (fun h7 => ?_) (fun h7 => ?_)
  · have hm := Nat.mod_lt t hL
    refine x_iload_n F 0 dJ9_floorMod_7cf53_18 rfl ?_
    exact x_iret F () (rfl) (rfl) (by omega) (by omega) dJ9_floorMod_7cf53_19
  · exact absurd (xor_nn ht hL2) h7

set_option maxHeartbeats 4000000 in
set_option maxRecDepth 100000 in
theorem c_X3_putInBoth (l : Launch) (D : va_G) (cA : Nat → ClassId) (as_ : Nat → Nat) (L : Nat) (MS : Nat → Nat → Int32) (JS : Nat → Nat → Int64) (mk : Nat → Option Nat) (fo w : Nat) (v : Int32) (hw : w < 16) : Cg l D cA yX3_putInBoth cX3_putInBoth 3 none 0 0 0 ([.ref (as_ 100), .int (nI w), .int v] : List Value) (wS cA as_ fo L MS JS mk) (fun (r : Option Value) (u : Nat → Nat → Int32) => r = none ∧ u = st2 (st2 MS 1 w v) 2 w v) (fun u : Nat → Nat → Int32 => wS cA as_ fo L u JS mk) := by
  refine x_met (by decide +kernel) rfl (Nat.le_of_ble_eq_true rfl) ?_
  intro xp xe xs xm xbl xme xco F hnm
  refine x_lv [(0, .ref (as_ 100)), (1, .int (nI w)), (2, .int v)] [0, 1, 2] rfl ?_
  refine x_aload_n F 0 dX3_putInBoth_0 rfl ?_
  refine x_get F inUX3 0 1 rfl rfl (by decide) wfX3_22 rfl dX3_putInBoth_1 ?_
  refine x_iload_n F 1 dX3_putInBoth_4 rfl ?_
  refine x_iload_n F 2 dX3_putInBoth_5 rfl ?_
  refine x_iast F 1 (k := w) (wS cA as_ fo L (st2 MS 1 w v) JS mk) rfl (by omega) (by decide) rfl dX3_putInBoth_6 ?_
  refine x_aload_n F 0 dX3_putInBoth_7 rfl ?_
  refine x_get F inUX3 0 2 rfl rfl (by decide) wfX3_26 rfl dX3_putInBoth_8 ?_
  refine x_iload_n F 1 dX3_putInBoth_11 rfl ?_
  refine x_iload_n F 2 dX3_putInBoth_12 rfl ?_
  refine x_iast F 2 (k := w) (wS cA as_ fo L (st2 (st2 MS 1 w v) 2 w v) JS mk) rfl (by omega) (by decide) rfl dX3_putInBoth_13 ?_
  exact x_vret F (st2 (st2 MS 1 w v) 2 w v) (⟨rfl, rfl⟩) (rfl) (by omega) (by omega) dX3_putInBoth_14

set_option maxHeartbeats 4000000 in
set_option maxRecDepth 100000 in
theorem c_X3_followChange (l : Launch) (D : va_G) (cA : Nat → ClassId) (as_ : Nat → Nat) (L : Nat) (MS : Nat → Nat → Int32) (JS : Nat → Nat → Int64) (mk : Nat → Option Nat) (fo : Nat) (al : Nat → Nat) (ML : Nat → Nat → Int32) (i : Nat) (hi : i < 120) (hw : wfE ML i) : Cg l D cA yX3_followChange cX3_followChange 4 none 1 0 0 ([.ref (as_ 100), .ref (al 100), .int (nI i)] : List Value) ((wS cA as_ fo L MS JS mk) ++ (wL cA al ML)) (fun (r : Option Value) (u : Nat → Nat → Int32) => r = none ∧ u = flwS ML i MS) (fun u : Nat → Nat → Int32 => (wS cA as_ fo L u JS mk) ++ (wL cA al ML)) := by
  refine x_met (by decide +kernel) rfl (Nat.le_of_ble_eq_true rfl) ?_
  intro xp xe xs xm xbl xme xco F hnm
  refine x_lv [(0, .ref (as_ 100)), (1, .ref (al 100)), (2, .int (nI i))] [0, 1, 2] rfl ?_
  obtain ⟨k, w, hk, ew, hk8, h3, hn3, -, -, -⟩ := hw
  have hw16 : w < 16 := by
    by_cases h : k = 3
    · have := (h3 h).1; omega
    · exact hn3 h
  have ewc : (ML 1 i).toNatClampNeg = w := by rw [ew]; exact nI_clamp (by omega)
  refine x_aload_n F 1 dX3_followChange_0 rfl ?_
  refine x_get F inUX1 6 0 rfl rfl (by decide) wfX3_98 rfl dX3_followChange_1 ?_
  refine x_iload_n F 2 dX3_followChange_4 rfl ?_
  refine x_iald F 7 (k := i) rfl (by omega) (by decide) dX3_followChange_5 ?_
  refine x_top (nI k) (hk) ?_
  refine x_istore_n F [(3, .int (nI k)), (0, .ref (as_ 100)), (1, .ref (al 100)), (2, .int (nI i))] dX3_followChange_6 (by decide) rfl ?_
  refine x_iload_n F 0 dX3_followChange_7 rfl ?_
  refine x_if_eq F 16 dX3_followChange_8 (by decide) (fun h8 => ?_) (fun h8 => ?_)
  · have h8n : k = 0 := (nI_eq (by omega) (by decide)).mp (h8.trans nI_0.symm)
    refine x_aload_n F 1 dX3_followChange_16 rfl ?_
    refine x_aload_n F 2 dX3_followChange_17 rfl ?_
    refine x_get F inUX1 6 1 rfl rfl (by decide) wfX3_101 rfl dX3_followChange_18 ?_
    refine x_iload_n F 3 dX3_followChange_21 rfl ?_
    refine x_iald F 8 (k := i) rfl (by omega) (by decide) dX3_followChange_22 ?_
    refine x_top (nI w) (ew) ?_
    refine x_iconst F (-1) dX3_followChange_23 (by decide +kernel) ?_
    refine x_callV F [] (wL cA al ML) [0, 1, 2, 3, 4, 5] [6, 7, 8, 9, 10, 11] (c_X3_putInBoth l D cA as_ L MS JS mk fo w (-1) hw16) mwX3_putInBoth wmX3_104 rfl (q0 := 0) rfl rfl rfl (Nat.le_of_ble_eq_true rfl) ⟨by decide, by decide⟩ ⟨by show _ ≤ 0; omega, by show _ ≤ 0; omega⟩ rfl rfl (by decide) (by decide) (by decide) dX3_followChange_24 (fun r1 u2 hp3 => ?_)
    obtain ⟨rfl, rfl⟩ := hp3
    refine x_sub ((wS cA as_ fo L (st2 (st2 MS 1 w (-1)) 2 w (-1)) JS mk) ++ (wL cA al ML)) [6, 7, 8, 9, 10, 11, 0, 1, 2, 3, 4, 5] rfl (by decide) ?_
    refine x_goto F 52 dX3_followChange_27 (by decide) ?_
    exact x_vret F (st2 (st2 MS 1 w (-1)) 2 w (-1)) (⟨rfl, by unfold flwS; rw [ewc]; rw [if_pos (Or.inl (by rw [hk]; exact congrArg nI h8n))]⟩) (rfl) (by omega) (by omega) dX3_followChange_52
  · have h8n : ¬ k = 0 := fun z => h8 (((nI_eq (by omega) (by decide)).mpr z).trans nI_0)
    refine x_iload_n F 0 dX3_followChange_11 rfl ?_
    refine x_iconst F (nI 1) dX3_followChange_12 (by decide +kernel) ?_
    refine x_icmp_ne F 30 dX3_followChange_13 (by decide) (fun h13 => ?_) (fun h13 => ?_)
    · have h13n : ¬ k = 1 := fun z => h13 ((nI_eq (by omega) (by decide)).mpr z)
      refine x_iload_n F 0 dX3_followChange_30 rfl ?_
      refine x_bipush F (nI 6) dX3_followChange_31 (by decide +kernel) ?_
      refine x_icmp_ne F 52 dX3_followChange_33 (by decide) (fun h33 => ?_) (fun h33 => ?_)
      · have h33n : ¬ k = 6 := fun z => h33 ((nI_eq (by omega) (by decide)).mpr z)
        exact x_vret F MS (⟨rfl, by unfold flwS; rw [ewc]; rw [if_neg (by rw [hk]; exact fun z => z.elim (fun z => h8n ((nI_eq (by omega) (by decide)).mp z)) (fun z => h13n ((nI_eq (by omega) (by decide)).mp z))), if_neg (by rw [hk]; exact fun z => h33n ((nI_eq (by omega) (by decide)).mp z))]⟩) (rfl) (by omega) (by omega) dX3_followChange_52
      · have h33n : k = 6 := (nI_eq (by omega) (by decide)).mp h33
        refine x_aload_n F 1 dX3_followChange_36 rfl ?_
        refine x_aload_n F 2 dX3_followChange_37 rfl ?_
        refine x_get F inUX1 6 1 rfl rfl (by decide) wfX3_101 rfl dX3_followChange_38 ?_
        refine x_iload_n F 3 dX3_followChange_41 rfl ?_
        refine x_iald F 8 (k := i) rfl (by omega) (by decide) dX3_followChange_42 ?_
        refine x_top (nI w) (ew) ?_
        refine x_aload_n F 2 dX3_followChange_43 rfl ?_
        refine x_get F inUX1 6 2 rfl rfl (by decide) wfX3_108 rfl dX3_followChange_44 ?_
        refine x_iload_n F 3 dX3_followChange_47 rfl ?_
        refine x_iald F 9 (k := i) rfl (by omega) (by decide) dX3_followChange_48 ?_
        refine x_callV F [] (wL cA al ML) [0, 1, 2, 3, 4, 5] [6, 7, 8, 9, 10, 11] (c_X3_putInBoth l D cA as_ L MS JS mk fo w (ML 2 i) hw16) mwX3_putInBoth wmX3_104 rfl (q0 := 0) rfl rfl rfl (Nat.le_of_ble_eq_true rfl) ⟨by decide, by decide⟩ ⟨by show _ ≤ 0; omega, by show _ ≤ 0; omega⟩ rfl rfl (by decide) (by decide) (by decide) dX3_followChange_49 (fun r4 u5 hp6 => ?_)
        obtain ⟨rfl, rfl⟩ := hp6
        refine x_sub ((wS cA as_ fo L (st2 (st2 MS 1 w (ML 2 i)) 2 w (ML 2 i)) JS mk) ++ (wL cA al ML)) [6, 7, 8, 9, 10, 11, 0, 1, 2, 3, 4, 5] rfl (by decide) ?_
        exact x_vret F (st2 (st2 MS 1 w (ML 2 i)) 2 w (ML 2 i)) (⟨rfl, by unfold flwS; rw [ewc]; rw [if_neg (by rw [hk]; exact fun z => z.elim (fun z => h8n ((nI_eq (by omega) (by decide)).mp z)) (fun z => h13n ((nI_eq (by omega) (by decide)).mp z))), if_pos (by rw [hk]; exact congrArg nI h33n)]⟩) (rfl) (by omega) (by omega) dX3_followChange_52
    · have h13n : k = 1 := (nI_eq (by omega) (by decide)).mp h13
      refine x_aload_n F 1 dX3_followChange_16 rfl ?_
      refine x_aload_n F 2 dX3_followChange_17 rfl ?_
      refine x_get F inUX1 6 1 rfl rfl (by decide) wfX3_101 rfl dX3_followChange_18 ?_
      refine x_iload_n F 3 dX3_followChange_21 rfl ?_
      refine x_iald F 8 (k := i) rfl (by omega) (by decide) dX3_followChange_22 ?_
      refine x_top (nI w) (ew) ?_
      refine x_iconst F (-1) dX3_followChange_23 (by decide +kernel) ?_
      refine x_callV F [] (wL cA al ML) [0, 1, 2, 3, 4, 5] [6, 7, 8, 9, 10, 11] (c_X3_putInBoth l D cA as_ L MS JS mk fo w (-1) hw16) mwX3_putInBoth wmX3_104 rfl (q0 := 0) rfl rfl rfl (Nat.le_of_ble_eq_true rfl) ⟨by decide, by decide⟩ ⟨by show _ ≤ 0; omega, by show _ ≤ 0; omega⟩ rfl rfl (by decide) (by decide) (by decide) dX3_followChange_24 (fun r7 u8 hp9 => ?_)
      obtain ⟨rfl, rfl⟩ := hp9
      refine x_sub ((wS cA as_ fo L (st2 (st2 MS 1 w (-1)) 2 w (-1)) JS mk) ++ (wL cA al ML)) [6, 7, 8, 9, 10, 11, 0, 1, 2, 3, 4, 5] rfl (by decide) ?_
      refine x_goto F 52 dX3_followChange_27 (by decide) ?_
      exact x_vret F (st2 (st2 MS 1 w (-1)) 2 w (-1)) (⟨rfl, by unfold flwS; rw [ewc]; rw [if_pos (Or.inr (by rw [hk]; exact congrArg nI h13n))]⟩) (rfl) (by omega) (by omega) dX3_followChange_52

set_option maxHeartbeats 4000000 in
set_option maxRecDepth 100000 in
theorem c_X3_scoreAnew (l : Launch) (D : va_G) (cA : Nat → ClassId) (as_ : Nat → Nat) (L : Nat) (MS : Nat → Nat → Int32) (JS : Nat → Nat → Int64) (mk : Nat → Option Nat) (ad : Nat → Nat) (M : Nat → Nat → Int32)  : Cg l D cA yX3_scoreAnew cX3_scoreAnew 1 none 3 0 0 ([.ref (as_ 100)] : List Value) ((wS cA as_ (ad 100) L MS JS mk) ++ (wF cA ad M)) (fun (r : Option Value) (u : SJM) => r = none ∧ u = anew (MS, JS, M)) (fun u : SJM => (wS cA as_ (ad 100) L (u.1) (u.2.1) mk) ++ (wF cA ad (u.2.2))) := by
  refine x_met (by decide +kernel) rfl (Nat.le_of_ble_eq_true rfl) ?_
  intro xp xe xs xm xbl xme xco F hnm
  refine x_lv [(0, .ref (as_ 100))] [0] rfl ?_
  refine x_aload_n F 0 dX3_scoreAnew_0 rfl ?_
  refine x_aload_n F 0 dX3_scoreAnew_1 rfl ?_
  refine x_get F inUX3 0 0 rfl rfl (by decide) wfX3_12 rfl dX3_scoreAnew_2 ?_
  refine x_aload_n F 0 dX3_scoreAnew_5 rfl ?_
  refine x_get F inUX3 0 1 rfl rfl (by decide) wfX3_22 rfl dX3_scoreAnew_6 ?_
  refine x_callV F [.ref (as_ 100)] ([0, 2, 3, 4, 5].filterMap (fun i => ((wS cA as_ (ad 100) L MS JS mk) ++ (wF cA ad M))[i]?)) [6, 7, 8, 9, 10, 11, 12, 13, 14, 15, 1] [0, 2, 3, 4, 5] (c_X0_scoreOf l D cA ad M (as_ 1) (MS 1)) mwX0_scoreOf wmX3_111 rfl (q0 := 0) rfl rfl rfl (Nat.le_of_ble_eq_true rfl) ⟨by decide, by decide⟩ ⟨by show _ ≤ 0; omega, by show _ ≤ 0; omega⟩ rfl rfl (by decide) (by decide) (by decide) dX3_scoreAnew_9 (fun r1 u2 hp3 => ?_)
  obtain ⟨rfl, eu2⟩ := hp3
  refine x_sub ((wS cA as_ (ad 100) L MS JS mk) ++ (wF cA ad u2)) [0, 15, 1, 2, 3, 4, 5, 6, 7, 8, 9, 10, 11, 12, 13, 14] rfl (by decide) ?_
  obtain ⟨vu2, evu2⟩ : ∃ z, z = scL M (MS 1) := ⟨_, rfl⟩
  rw [← evu2]
  refine x_put F inUX3 tyX3_ok nmX3 0 6 ((wS cA as_ (ad 100) L MS (st3 JS 6 0 vu2) mk) ++ (wF cA ad u2)) rfl rfl (by decide) wfX3_38 rfl rfl rfl rfl (Nat.le_of_ble_eq_true rfl) rfl dX3_scoreAnew_12 ?_
  refine x_aload_n F 0 dX3_scoreAnew_15 rfl ?_
  refine x_aload_n F 0 dX3_scoreAnew_16 rfl ?_
  refine x_get F inUX3 0 0 rfl rfl (by decide) wfX3_12 rfl dX3_scoreAnew_17 ?_
  refine x_aload_n F 0 dX3_scoreAnew_20 rfl ?_
  refine x_get F inUX3 0 2 rfl rfl (by decide) wfX3_26 rfl dX3_scoreAnew_21 ?_
  refine x_callV F [.ref (as_ 100)] ([0, 1, 3, 4, 5].filterMap (fun i => ((wS cA as_ (ad 100) L MS (st3 JS 6 0 vu2) mk) ++ (wF cA ad u2))[i]?)) [6, 7, 8, 9, 10, 11, 12, 13, 14, 15, 2] [0, 1, 3, 4, 5] (c_X0_scoreOf l D cA ad u2 (as_ 2) (MS 2)) mwX0_scoreOf wmX3_111 rfl (q0 := 0) rfl rfl rfl (Nat.le_of_ble_eq_true rfl) ⟨by decide, by decide⟩ ⟨by show _ ≤ 0; omega, by show _ ≤ 0; omega⟩ rfl rfl (by decide) (by decide) (by decide) dX3_scoreAnew_24 (fun r4 u5 hp6 => ?_)
  obtain ⟨rfl, eu5⟩ := hp6
  refine x_sub ((wS cA as_ (ad 100) L MS (st3 JS 6 0 vu2) mk) ++ (wF cA ad u5)) [0, 1, 15, 2, 3, 4, 5, 6, 7, 8, 9, 10, 11, 12, 13, 14] rfl (by decide) ?_
  obtain ⟨vu5, evu5⟩ : ∃ z, z = scL u2 (MS 2) := ⟨_, rfl⟩
  rw [← evu5]
  refine x_put F inUX3 tyX3_ok nmX3 0 7 ((wS cA as_ (ad 100) L MS (st3 (st3 JS 6 0 vu2) 7 0 vu5) mk) ++ (wF cA ad u5)) rfl rfl (by decide) wfX3_42 rfl rfl rfl rfl (Nat.le_of_ble_eq_true rfl) rfl dX3_scoreAnew_27 ?_
  exact x_vret F (MS, (st3 (st3 JS 6 0 vu2) 7 0 vu5), u5) (⟨rfl, by rw [evu5, eu5, evu2, eu2]; rfl⟩) (rfl) (by omega) (by omega) dX3_scoreAnew_30

set_option maxHeartbeats 4000000 in
set_option maxRecDepth 100000 in
theorem c_X3_keepIfBest (l : Launch) (D : va_G) (cA : Nat → ClassId) (as_ : Nat → Nat) (L : Nat) (MS : Nat → Nat → Int32) (JS : Nat → Nat → Int64) (mk : Nat → Option Nat) (ad : Nat → Nat) (M : Nat → Nat → Int32)  : Cg l D cA yX3_keepIfBest cX3_keepIfBest 1 none 1 0 0 ([.ref (as_ 100)] : List Value) ((wS cA as_ (ad 100) L MS JS mk) ++ (wF cA ad M)) (fun (r : Option Value) (u : SJM) => r = none ∧ u = keepB (MS, JS, M)) (fun u : SJM => (wS cA as_ (ad 100) L (u.1) (u.2.1) mk) ++ (wF cA ad (u.2.2))) := by
  refine x_met (by decide +kernel) rfl (Nat.le_of_ble_eq_true rfl) ?_
  intro xp xe xs xm xbl xme xco F hnm
  refine x_lv [(0, .ref (as_ 100))] [0] rfl ?_
  refine x_aload_n F 0 dX3_keepIfBest_0 rfl ?_
  refine x_get F inUX3 0 6 rfl rfl (by decide) wfX3_38 rfl dX3_keepIfBest_1 ?_
  refine x_aload_n F 0 dX3_keepIfBest_4 rfl ?_
  refine x_get F inUX3 0 7 rfl rfl (by decide) wfX3_42 rfl dX3_keepIfBest_5 ?_
  refine x_lcmp F (lg_cmp (JS 6 0) (JS 7 0)) dX3_keepIfBest_8 rfl ?_
  refine x_if_ge F 45 dX3_keepIfBest_9 (by decide) (fun h9 => ?_) (fun h9 => ?_)
  · have e9 : keepB (MS, JS, M) = (MS, JS, M) := by unfold keepB; rw [if_neg (Int64.not_lt.mpr ((lg_cmp_ge _ _).mp h9))]
    exact x_vret F (MS, JS, M) (⟨rfl, e9.symm⟩) (rfl) (by omega) (by omega) dX3_keepIfBest_45
  · have e9 : keepB (MS, JS, M) = (st2 (va_up MS 2 (va_cpy (MS 1) (MS 2) 0 0 16)) 11 0 (MS 11 0 + nI 1), st3 JS 7 0 (JS 6 0), M) := by unfold keepB; rw [if_pos (Int64.not_le.mp (fun z => h9 ((lg_cmp_ge _ _).mpr z)))]
    refine x_aload_n F 0 dX3_keepIfBest_12 rfl ?_
    refine x_get F inUX3 0 1 rfl rfl (by decide) wfX3_22 rfl dX3_keepIfBest_13 ?_
    refine x_iconst F (nI 0) dX3_keepIfBest_16 (by decide +kernel) ?_
    refine x_aload_n F 0 dX3_keepIfBest_17 rfl ?_
    refine x_get F inUX3 0 2 rfl rfl (by decide) wfX3_26 rfl dX3_keepIfBest_18 ?_
    refine x_iconst F (nI 0) dX3_keepIfBest_21 (by decide +kernel) ?_
    refine x_bipush F (nI 16) dX3_keepIfBest_22 (by decide +kernel) ?_
    refine x_copyI F 1 2 (k := 16) ((wS cA as_ (ad 100) L (va_up MS 2 (va_cpy (MS 1) (MS 2) 0 0 16)) JS mk) ++ (wF cA ad M)) rfl rfl (by omega) (by omega) (by omega) rfl wmX3_115 (by decide) (by first | decide +kernel | exact Nat.le_of_ble_eq_true rfl) dX3_keepIfBest_24 ?_
    refine x_aload_n F 0 dX3_keepIfBest_27 rfl ?_
    refine x_aload_n F 0 dX3_keepIfBest_28 rfl ?_
    refine x_get F inUX3 0 6 rfl rfl (by decide) wfX3_38 rfl dX3_keepIfBest_29 ?_
    refine x_put F inUX3 tyX3_ok nmX3 0 7 ((wS cA as_ (ad 100) L (va_up MS 2 (va_cpy (MS 1) (MS 2) 0 0 16)) (st3 JS 7 0 (JS 6 0)) mk) ++ (wF cA ad M)) rfl rfl (by decide) wfX3_42 rfl rfl rfl rfl (Nat.le_of_ble_eq_true rfl) rfl dX3_keepIfBest_32 ?_
    refine x_aload_n F 0 dX3_keepIfBest_35 rfl ?_
    refine x_dup F dX3_keepIfBest_36 rfl ?_
    refine x_get F inUX3 0 11 rfl rfl (by decide) wfX3_52 rfl dX3_keepIfBest_37 ?_
    refine x_iconst F (nI 1) dX3_keepIfBest_40 (by decide +kernel) ?_
    refine x_iadd F (((va_up MS 2 (va_cpy (MS 1) (MS 2) 0 0 16)) 11 0) + (nI 1)) dX3_keepIfBest_41 rfl ?_
    refine x_put F inUX3 tyX3_ok nmX3 0 11 ((wS cA as_ (ad 100) L (st2 (va_up MS 2 (va_cpy (MS 1) (MS 2) 0 0 16)) 11 0 (((va_up MS 2 (va_cpy (MS 1) (MS 2) 0 0 16)) 11 0) + (nI 1))) (st3 JS 7 0 (JS 6 0)) mk) ++ (wF cA ad M)) rfl rfl (by decide) wfX3_52 rfl rfl rfl rfl (Nat.le_of_ble_eq_true rfl) rfl dX3_keepIfBest_42 ?_
    exact x_vret F ((st2 (va_up MS 2 (va_cpy (MS 1) (MS 2) 0 0 16)) 11 0 (((va_up MS 2 (va_cpy (MS 1) (MS 2) 0 0 16)) 11 0) + (nI 1))), (st3 JS 7 0 (JS 6 0)), M) (⟨rfl, e9.symm⟩) (rfl) (by omega) (by omega) dX3_keepIfBest_45

set_option maxHeartbeats 4000000 in
set_option maxRecDepth 100000 in
theorem c_X3_catchUp (l : Launch) (D : va_G) (cA : Nat → ClassId) (as_ : Nat → Nat) (L : Nat) (MS : Nat → Nat → Int32) (JS : Nat → Nat → Int64) (mk : Nat → Option Nat) (ad : Nat → Nat) (M : Nat → Nat → Int32) (al : Nat → Nat) (ML : Nat → Nat → Int32) (n k cnt : Nat) (hc : ML 5 0 = nI cnt) (hcn : cnt ≤ 120) (hnc : n ≤ cnt) (hk : M 0 0 = nI k) (hkc : k ≤ cnt) (hwf : ∀ i, i < cnt → wfE ML i) (hL : L < 2 ^ 31) : Cg l D cA yX3_catchUp cX3_catchUp 6 (some .int) 4 0 0 ([.ref (as_ 100), .ref (al 100), .int (nI n)] : List Value) ((wS cA as_ (ad 100) L MS JS mk) ++ (wF cA ad M) ++ (wL cA al ML)) (fun (r : Option Value) (u : SJM) => r = some (.int (nI (n - k))) ∧ u = if n ≤ k then (MS, JS, M) else catchS ML k n L (MS, JS, M)) (fun u : SJM => (wS cA as_ (ad 100) L (u.1) (u.2.1) mk) ++ (wF cA ad (u.2.2)) ++ (wL cA al ML)) := by
  refine x_met (by decide +kernel) rfl (Nat.le_of_ble_eq_true rfl) ?_
  intro xp xe xs xm xbl xme xco F hnm
  refine x_lv [(0, .ref (as_ 100)), (1, .ref (al 100)), (2, .int (nI n))] [0, 1, 2] rfl ?_
  refine x_aload_n F 0 dX3_catchUp_0 rfl ?_
  refine x_get F inUX3 0 0 rfl rfl (by decide) wfX3_12 rfl dX3_catchUp_1 ?_
  refine x_get F inUX0 6 0 rfl rfl (by decide) wfX3_68 rfl dX3_catchUp_4 ?_
  refine x_top (nI k) (hk) ?_
  refine x_istore_n F [(3, .int (nI k)), (0, .ref (as_ 100)), (1, .ref (al 100)), (2, .int (nI n))] dX3_catchUp_7 (by decide) rfl ?_
  refine x_iload_n F 3 dX3_catchUp_8 rfl ?_
  refine x_aload_n F 2 dX3_catchUp_9 rfl ?_
  refine x_get F inUX1 16 5 rfl rfl (by decide) wfX3_71 rfl dX3_catchUp_10 ?_
  refine x_top (nI cnt) (hc) ?_
  refine x_mmin F (if (nI cnt) < (nI n) then (nI cnt) else (nI n)) wmX3_76 (by decide) (Nat.le_of_ble_eq_true rfl) (by show _ ≤ 0; omega) (by show _ ≤ 0; omega) rfl dX3_catchUp_13 ?_
  refine x_top (nI n) (if_neg (nI_nlt hnc (by omega))) ?_
  refine x_istore F [(4, .int (nI n)), (3, .int (nI k)), (0, .ref (as_ 100)), (1, .ref (al 100)), (2, .int (nI n))] dX3_catchUp_16 (by decide) rfl ?_
  refine x_iload F 0 dX3_catchUp_18 rfl ?_
  refine x_iload_n F 1 dX3_catchUp_20 rfl ?_
  refine x_icmp_gt F 26 dX3_catchUp_21 (by decide) (fun h21 => ?_) (fun h21 => ?_)
  · have h21n : k < n := (nI_ltI (by omega) (by omega)).mp h21
    have hnk : ¬ n ≤ k := by omega
    refine x_aload_n F 2 dX3_catchUp_26 rfl ?_
    refine x_get F inUX3 0 0 rfl rfl (by decide) wfX3_12 rfl dX3_catchUp_27 ?_
    refine x_aload_n F 3 dX3_catchUp_30 rfl ?_
    refine x_iload F 0 dX3_catchUp_31 rfl ?_
    refine x_callV F [] (wS cA as_ (ad 100) L MS JS mk) [6, 7, 8, 9, 10, 11, 12, 13, 14, 15, 16, 17, 18, 19, 20, 21] [0, 1, 2, 3, 4, 5] (c_X0_become l D cA ad M al ML n k cnt hc hcn hnc hk hkc hwf) mwX0_become wmX3_79 rfl (q0 := 0) rfl rfl rfl (Nat.le_of_ble_eq_true rfl) ⟨by decide, by decide⟩ ⟨by show _ ≤ 0; omega, by show _ ≤ 0; omega⟩ rfl rfl (by decide) (by decide) (by decide) dX3_catchUp_33 (fun r1 u2 hp3 => ?_)
    obtain ⟨rfl, rfl⟩ := hp3
    refine x_iload_n F 1 dX3_catchUp_36 rfl ?_
    refine x_istore F [(5, .int (nI k)), (4, .int (nI n)), (3, .int (nI k)), (0, .ref (as_ 100)), (1, .ref (al 100)), (2, .int (nI n))] dX3_catchUp_37 (by decide) rfl ?_
    refine x_lv [(0, .ref (as_ 100)), (1, .ref (al 100)), (2, .int (nI n)), (3, .int (nI k)), (4, .int (nI n)), (5, .int (nI k))] [3, 4, 5, 2, 1, 0] rfl ?_
    refine x_lv [(0, .ref (as_ 100)), (1, .ref (al 100)), (2, .int (nI n)), (3, .int (nI k)), (4, .int (nI n)), (5, .int (nI (k + 0)))] [0, 1, 2, 3, 4, 5] (by rw [Nat.add_zero]; rfl) ?_
    have loop39 : ∀ (nn39 : Nat) (c : Nat) (A : Nat → Nat → Int32), (k + c ≤ n) → (A = itS ML k c MS) → (n - (k + c) < nn39) → Wx xp l xe (rmL 4 0 0) xs xm ([.ref (as_ 100), .ref (al 100), .int (nI n)] : List Value).toArray xbl xme xco 0 0 (xQ xbl D ((wS cA as_ (ad 100) L MS JS mk) ++ (wF cA ad M) ++ (wL cA al ML)) xs ([.ref (as_ 100), .ref (al 100), .int (nI n)] : List Value).toArray 0 0 (fun (r : Option Value) (u : SJM) => r = some (.int (nI (n - k))) ∧ u = if n ≤ k then (MS, JS, M) else catchS ML k n L (MS, JS, M)) (fun u : SJM => (wS cA as_ (ad 100) L (u.1) (u.2.1) mk) ++ (wF cA ad (u.2.2)) ++ (wL cA al ML))) 6 D (va_A ((wS cA as_ (ad 100) L MS JS mk) ++ (wF cA ad M) ++ (wL cA al ML)) xs.heap.size) 39 [(0, .ref (as_ 100)), (1, .ref (al 100)), (2, .int (nI n)), (3, .int (nI k)), (4, .int (nI n)), (5, .int (nI (k + c)))] [] ((wS cA as_ (ad 100) L A JS mk) ++ (wF cA ad (becF ML k n M)) ++ (wL cA al ML)) := by
      intro nn39
      induction nn39 with
      | zero =>
        intro c A hcc eA hm39
        exact absurd hm39 (Nat.not_lt_zero _)
      | succ nn39 ih39 =>
        intro c A hcc eA hm39
        refine x_iload F 5 dX3_catchUp_39 rfl ?_
        refine x_iload F 4 dX3_catchUp_41 rfl ?_
        refine x_icmp_ge F 59 dX3_catchUp_43 (by decide) (fun h43 => ?_) (fun h43 => ?_)
        · have h43n : n ≤ (k + c) := (nI_leI (by omega) (by omega)).mp h43
          obtain rfl : n - k = c := by omega
          refine x_aload_n F 0 dX3_catchUp_59 rfl ?_
          refine x_callV F [] (wL cA al ML) [0, 1, 2, 3, 4, 5, 6, 7, 8, 9, 10, 11, 12, 13, 14, 15] [16, 17, 18, 19, 20, 21] (c_X3_scoreAnew l D cA as_ L A JS mk ad (becF ML k n M)) mwX3_scoreAnew wmX3_86 rfl (q0 := 0) rfl rfl rfl (Nat.le_of_ble_eq_true rfl) ⟨by decide, by decide⟩ ⟨by show _ ≤ 0; omega, by show _ ≤ 0; omega⟩ rfl rfl (by decide) (by decide) (by decide) dX3_catchUp_60 (fun r4 u5 hp6 => ?_)
          obtain ⟨rfl, rfl⟩ := hp6
          refine x_sub ((wS cA as_ (ad 100) L ((anew (A, JS, (becF ML k n M))).1) ((anew (A, JS, (becF ML k n M))).2.1) mk) ++ (wF cA ad ((anew (A, JS, (becF ML k n M))).2.2)) ++ (wL cA al ML)) [6, 7, 8, 9, 10, 11, 12, 13, 14, 15, 16, 17, 18, 19, 20, 21, 0, 1, 2, 3, 4, 5] rfl (by decide) ?_
          obtain ⟨sg7, esg7⟩ : ∃ z, z = anew (A, JS, (becF ML k n M)) := ⟨_, rfl⟩
          rw [← esg7]
          refine x_aload_n F 0 dX3_catchUp_63 rfl ?_
          refine x_callV F [] (wL cA al ML) [0, 1, 2, 3, 4, 5, 6, 7, 8, 9, 10, 11, 12, 13, 14, 15] [16, 17, 18, 19, 20, 21] (c_X3_keepIfBest l D cA as_ L (sg7.1) (sg7.2.1) mk ad (sg7.2.2)) mwX3_keepIfBest wmX3_89 rfl (q0 := 0) rfl rfl rfl (Nat.le_of_ble_eq_true rfl) ⟨by decide, by decide⟩ ⟨by show _ ≤ 0; omega, by show _ ≤ 0; omega⟩ rfl rfl (by decide) (by decide) (by decide) dX3_catchUp_64 (fun r8 u9 hp10 => ?_)
          obtain ⟨rfl, rfl⟩ := hp10
          refine x_sub ((wS cA as_ (ad 100) L ((keepB ((sg7.1), (sg7.2.1), (sg7.2.2))).1) ((keepB ((sg7.1), (sg7.2.1), (sg7.2.2))).2.1) mk) ++ (wF cA ad ((keepB ((sg7.1), (sg7.2.1), (sg7.2.2))).2.2)) ++ (wL cA al ML)) [6, 7, 8, 9, 10, 11, 12, 13, 14, 15, 16, 17, 18, 19, 20, 21, 0, 1, 2, 3, 4, 5] rfl (by decide) ?_
          obtain ⟨sg11, esg11⟩ : ∃ z, z = keepB ((sg7.1), (sg7.2.1), (sg7.2.2)) := ⟨_, rfl⟩
          rw [← esg11]
          refine x_aload_n F 0 dX3_catchUp_67 rfl ?_
          refine x_get F inUX3 0 3 rfl rfl (by decide) wfX3_58 rfl dX3_catchUp_68 ?_
          refine x_aload_n F 0 dX3_catchUp_71 rfl ?_
          refine x_get F inUX3 0 6 rfl rfl (by decide) wfX3_38 rfl dX3_catchUp_72 ?_
          refine x_callS F [] ([0, 1, 2, 4, 5, 6, 7, 8, 9, 10, 11, 12, 13, 14, 15, 16, 17, 18, 19, 20, 21].filterMap (fun i => ((wS cA as_ (ad 100) L (sg11.1) (sg11.2.1) mk) ++ (wF cA ad (sg11.2.2)) ++ (wL cA al ML))[i]?)) [3] [0, 1, 2, 4, 5, 6, 7, 8, 9, 10, 11, 12, 13, 14, 15, 16, 17, 18, 19, 20, 21] (c_J7_fill_d0a16 l D cA (as_ 3) L ((sg11.2.1) 3) ((sg11.2.1) 6 0) hL) mwJ7_fill_d0a16 wmX3_92 rfl rfl (Nat.le_of_ble_eq_true rfl) ⟨by decide, by decide⟩ ⟨by show _ ≤ 0; omega, by show _ ≤ 0; omega⟩ rfl rfl (by decide) (by decide) (by decide) dX3_catchUp_75 (fun r12 u13 hp14 => ?_)
          subst hp14
          refine x_sub ((wS cA as_ (ad 100) L (sg11.1) (va_up (sg11.2.1) 3 (fl ((sg11.2.1) 3) L ((sg11.2.1) 6 0))) mk) ++ (wF cA ad (sg11.2.2)) ++ (wL cA al ML)) [0, 1, 2, 21, 3, 4, 5, 6, 7, 8, 9, 10, 11, 12, 13, 14, 15, 16, 17, 18, 19, 20] rfl (by decide) ?_
          refine x_iload F 4 dX3_catchUp_78 rfl ?_
          refine x_iload_n F 3 dX3_catchUp_80 rfl ?_
          refine x_isub F ((nI n) - (nI k)) dX3_catchUp_81 rfl ?_
          refine x_top (nI (n - k)) (pk_sub (by omega)) ?_
          exact x_iret F ((sg11.1), (va_up (sg11.2.1) 3 (fl ((sg11.2.1) 3) L ((sg11.2.1) 6 0))), (sg11.2.2)) (⟨rfl, by rw [if_neg hnk, esg11, esg7, eA]; rfl⟩) (rfl) (by omega) (by omega) dX3_catchUp_82
        · have h43n : ¬ n ≤ (k + c) := fun z => h43 ((nI_leI (by omega) (by omega)).mpr z)
          refine x_aload_n F 0 dX3_catchUp_46 rfl ?_
          refine x_aload_n F 1 dX3_catchUp_47 rfl ?_
          refine x_iload F 5 dX3_catchUp_48 rfl ?_
          refine x_callV F [] (wF cA ad (becF ML k n M)) [0, 1, 2, 3, 4, 5, 16, 17, 18, 19, 20, 21] [6, 7, 8, 9, 10, 11, 12, 13, 14, 15] (c_X3_followChange l D cA as_ L A JS mk (ad 100) al ML (k + c) (by omega) (hwf _ (by omega))) mwX3_followChange wmX3_83 rfl (q0 := 0) rfl rfl rfl (Nat.le_of_ble_eq_true rfl) ⟨by decide, by decide⟩ ⟨by show _ ≤ 0; omega, by show _ ≤ 0; omega⟩ rfl rfl (by decide) (by decide) (by decide) dX3_catchUp_50 (fun r15 u16 hp17 => ?_)
          obtain ⟨rfl, rfl⟩ := hp17
          refine x_sub ((wS cA as_ (ad 100) L (flwS ML (k + c) A) JS mk) ++ (wF cA ad (becF ML k n M)) ++ (wL cA al ML)) [10, 11, 12, 13, 14, 15, 0, 1, 2, 3, 4, 5, 6, 7, 8, 9, 16, 17, 18, 19, 20, 21] rfl (by decide) ?_
          refine x_iinc F (nI (k + c + 1)) 5 [(5, .int (nI (k + c + 1))), (0, .ref (as_ 100)), (1, .ref (al 100)), (2, .int (nI n)), (3, .int (nI k)), (4, .int (nI n))] dX3_catchUp_53 rfl ((nI_add (k + c) 1)) (by decide) rfl ?_
          refine x_goto F 39 dX3_catchUp_56 (by decide) ?_
          refine x_lv [(0, .ref (as_ 100)), (1, .ref (al 100)), (2, .int (nI n)), (3, .int (nI k)), (4, .int (nI n)), (5, .int (nI (k + c + 1)))] [1, 2, 3, 4, 5, 0] rfl ?_
          exact ih39 (c + 1) (flwS ML (k + c) A) (by omega) (by rw [eA]; rfl) (by omega)
    exact loop39 _ 0 MS (by omega) rfl (Nat.lt_succ_self _)
  · have h21n : ¬ k < n := fun z => h21 ((nI_ltI (by omega) (by omega)).mpr z)
    have hnk : n ≤ k := by omega
    refine x_iconst F (nI 0) dX3_catchUp_24 (by decide +kernel) ?_
    exact x_iret F (MS, JS, M) (⟨by rw [show n - k = 0 by omega], by rw [if_pos hnk]⟩) (rfl) (by omega) (by omega) dX3_catchUp_25

set_option maxHeartbeats 4000000 in
set_option maxRecDepth 100000 in
theorem c_X3_latePlace (l : Launch) (D : va_G) (cA : Nat → ClassId) (as_ : Nat → Nat) (L : Nat) (MS : Nat → Nat → Int32) (JS : Nat → Nat → Int64) (mk : Nat → Option Nat) (fo t : Nat) (ht : MS 8 0 = nI t) (ht2 : t < 2 ^ 31) (hL : 0 < L) (hL2 : L < 2 ^ 31) : Cr l D cA yX3_latePlace cX3_latePlace 1 (some .int) 1 ([.ref (as_ 100)] : List Value) (wS cA as_ fo L MS JS mk) (fun r : Option Value => r = some (.int (nI (t % L)))) := by
  refine x_met (by decide +kernel) rfl (Nat.le_of_ble_eq_true rfl) ?_
  intro xp xe xs xm xbl xme xco F hnm
  refine x_lv [(0, .ref (as_ 100))] [0] rfl ?_
  refine x_aload_n F 0 dX3_latePlace_0 rfl ?_
  refine x_get F inUX3 0 8 rfl rfl (by decide) wfX3_45 rfl dX3_latePlace_1 ?_
  refine x_top (nI t) (ht) ?_
  refine x_aload_n F 0 dX3_latePlace_4 rfl ?_
  refine x_get F inUX3 0 3 rfl rfl (by decide) wfX3_58 rfl dX3_latePlace_5 ?_
  refine x_alen F 3 1 rfl rfl (nI L) rfl dX3_latePlace_8 ?_
  refine x_callSr F [] [] (c_J9_floorMod_7cf53 l D cA t L (by omega) (by omega) (by omega)) mwJ9_floorMod_7cf53 wmX3_62 rfl rfl (Nat.le_of_ble_eq_true rfl) ⟨by decide, by decide⟩ ⟨by show _ ≤ 0; omega, by show _ ≤ 0; omega⟩ rfl (by decide) dX3_latePlace_9 (fun r1 hp2 => ?_)
  subst hp2
  exact x_iret F () (rfl) (rfl) (by omega) (by omega) dX3_latePlace_12

set_option maxHeartbeats 4000000 in
set_option maxRecDepth 100000 in
theorem c_X3_rooms0 (l : Launch) (D : va_G) (cA : Nat → ClassId) (as_ : Nat → Nat) (L : Nat) (MS : Nat → Nat → Int32) (JS : Nat → Nat → Int64) (mk : Nat → Option Nat) (fo : Nat) (b : Int32) (hb : b = 0) : Cr l D cA yX3_rooms cX3_rooms 2 (some (.array .int)) 0 ([.ref (as_ 100), .int b] : List Value) (wS cA as_ fo L MS JS mk) (fun r : Option Value => r = some (.ref (as_ 1))) := by
  refine x_met (by decide +kernel) rfl (Nat.le_of_ble_eq_true rfl) ?_
  intro xp xe xs xm xbl xme xco F hnm
  refine x_lv [(0, .ref (as_ 100)), (1, .int b)] [0, 1] rfl ?_
  refine x_iload_n F 1 dX3_rooms_0 rfl ?_
  refine x_if_eq F 11 dX3_rooms_1 (by decide) (fun h1 => ?_) (fun h1 => ?_)
  · refine x_aload_n F 0 dX3_rooms_11 rfl ?_
    refine x_get F inUX3 0 1 rfl rfl (by decide) wfX3_22 rfl dX3_rooms_12 ?_
    exact x_aret F (Or.inr ⟨_, rfl⟩) (Or.inr ⟨_, rfl⟩) () (rfl) (rfl) (by omega) (by omega) dX3_rooms_15
  · exact absurd hb h1

set_option maxHeartbeats 4000000 in
set_option maxRecDepth 100000 in
theorem c_X3_rooms1 (l : Launch) (D : va_G) (cA : Nat → ClassId) (as_ : Nat → Nat) (L : Nat) (MS : Nat → Nat → Int32) (JS : Nat → Nat → Int64) (mk : Nat → Option Nat) (fo : Nat) (b : Int32) (hb : ¬ b = 0) : Cr l D cA yX3_rooms cX3_rooms 2 (some (.array .int)) 0 ([.ref (as_ 100), .int b] : List Value) (wS cA as_ fo L MS JS mk) (fun r : Option Value => r = some (.ref (as_ 2))) := by
  refine x_met (by decide +kernel) rfl (Nat.le_of_ble_eq_true rfl) ?_
  intro xp xe xs xm xbl xme xco F hnm
  refine x_lv [(0, .ref (as_ 100)), (1, .int b)] [0, 1] rfl ?_
  refine x_iload_n F 1 dX3_rooms_0 rfl ?_
  refine x_if_eq F 11 dX3_rooms_1 (by decide) (fun h1 => ?_) (fun h1 => ?_)
  · exact absurd h1 hb
  · refine x_aload_n F 0 dX3_rooms_4 rfl ?_
    refine x_get F inUX3 0 2 rfl rfl (by decide) wfX3_26 rfl dX3_rooms_5 ?_
    refine x_goto F 15 dX3_rooms_8 (by decide) ?_
    exact x_aret F (Or.inr ⟨_, rfl⟩) (Or.inr ⟨_, rfl⟩) () (rfl) (rfl) (by omega) (by omega) dX3_rooms_15

