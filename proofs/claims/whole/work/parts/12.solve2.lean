/-! the class's Solve: steps, marks, going back, likeness, the constructors -/
set_option maxHeartbeats 4000000 in
set_option maxRecDepth 100000 in
theorem c_X3_tryPlan (l : Launch) (D : va_G) (cA : Nat → ClassId) (as_ : Nat → Nat) (L : Nat) (MS : Nat → Nat → Int32) (JS : Nat → Nat → Int64) (mk : Nat → Option Nat) (ad : Nat → Nat) (M : Nat → Nat → Int32) (mm : Nat) (lt : Int64) (hmm : 0 < mm) (hm16 : mm ≤ 16) (hmv : ∀ i, i < mm → ∃ j : Nat, j < 16 ∧ MS 5 i = nI j) : Cg l D cA yX3_tryPlan cX3_tryPlan 11 none 3 0 0 ([.ref (as_ 100), .int (nI mm), .long lt] : List Value) ((wS cA as_ (ad 100) L MS JS mk) ++ (wF cA ad M)) (fun (r : Option Value) (u : SJM) => r = none ∧ u = tryS mm lt (MS, JS, M)) (fun u : SJM => (wS cA as_ (ad 100) L (u.1) (u.2.1) mk) ++ (wF cA ad (u.2.2))) := by
  refine x_met (by decide +kernel) rfl (Nat.le_of_ble_eq_true rfl) ?_
  intro xp xe xs xm xbl xme xco F hnm
  refine x_lv [(0, .ref (as_ 100)), (1, .int (nI mm)), (2, .long lt)] [0, 1, 2] rfl ?_
  obtain ⟨j, hj16, ej⟩ := hmv (unat (MS 9 0) 16 % mm) (Nat.mod_lt _ hmm)
  obtain ⟨k, hk16, ek⟩ := hmv (unat (MS 9 0) 20 % mm) (Nat.mod_lt _ hmm)
  have ejx : jIx MS mm 16 = j := by unfold jIx; rw [ej]; exact nI_clamp (by omega)
  have ekx : jIx MS mm 20 = k := by unfold jIx; rw [ek]; exact nI_clamp (by omega)
  refine x_aload_n F 0 dX3_tryPlan_0 rfl ?_
  refine x_get F inUX3 0 9 rfl rfl (by decide) wfX3_55 rfl dX3_tryPlan_1 ?_
  refine x_bipush F (nI 8) dX3_tryPlan_4 (by decide +kernel) ?_
  refine x_iushr F (((MS 9 0).toUInt32 >>> ((nI 8).toUInt32 &&& Int32.toUInt32 31)).toInt32) dX3_tryPlan_6 rfl ?_
  refine x_top (nI (unat (MS 9 0) 8)) (ush_eq _ 8 (by decide +kernel)) ?_
  refine x_iconst F (nI 4) dX3_tryPlan_7 (by decide +kernel) ?_
  refine x_irem F ((nI (unat (MS 9 0) 8)) - (nI (unat (MS 9 0) 8)) / (nI 4) * (nI 4)) dX3_tryPlan_8 (by decide) rfl ?_
  refine x_top (nI (unat (MS 9 0) 8 % 4)) (pk_rem (unat_lt _ (by decide)) (by decide) (by decide)) ?_
  refine x_iconst F (nI 3) dX3_tryPlan_9 (by decide +kernel) ?_
  refine x_icmp_ne F 17 dX3_tryPlan_10 (by decide) (fun h10 => ?_) (fun h10 => ?_)
  · have h10n : ¬ (unat (MS 9 0) 8 % 4) = 3 := fun z => h10 ((nI_eq (by omega) (by decide)).mpr z)
    refine x_iconst F (nI 0) dX3_tryPlan_17 (by decide +kernel) ?_
    refine x_istore F [(4, .int (nI 0)), (0, .ref (as_ 100)), (1, .int (nI mm)), (2, .long lt)] dX3_tryPlan_18 (by decide) rfl ?_
    refine x_aload_n F 1 dX3_tryPlan_20 rfl ?_
    refine x_get F inUX3 0 5 rfl rfl (by decide) wfX3_35 rfl dX3_tryPlan_21 ?_
    refine x_aload_n F 1 dX3_tryPlan_24 rfl ?_
    refine x_get F inUX3 0 9 rfl rfl (by decide) wfX3_55 rfl dX3_tryPlan_25 ?_
    refine x_bipush F (nI 16) dX3_tryPlan_28 (by decide +kernel) ?_
    refine x_iushr F (((MS 9 0).toUInt32 >>> ((nI 16).toUInt32 &&& Int32.toUInt32 31)).toInt32) dX3_tryPlan_30 rfl ?_
    refine x_top (nI (unat (MS 9 0) 16)) (ush_eq _ 16 (by decide +kernel)) ?_
    refine x_iload_n F 2 dX3_tryPlan_31 rfl ?_
    refine x_irem F ((nI (unat (MS 9 0) 16)) - (nI (unat (MS 9 0) 16)) / (nI mm) * (nI mm)) dX3_tryPlan_32 (nI_ne0 hmm (by omega)) rfl ?_
    refine x_top (nI (unat (MS 9 0) 16 % mm)) (pk_rem (unat_lt _ (by decide)) hmm (by omega)) ?_
    refine x_iald F 5 (k := unat (MS 9 0) 16 % mm) rfl (Nat.lt_of_lt_of_le (Nat.mod_lt _ hmm) hm16) (by decide) dX3_tryPlan_33 ?_
    refine x_top (nI j) (ej) ?_
    refine x_istore F [(5, .int (nI j)), (4, .int (nI 0)), (0, .ref (as_ 100)), (1, .int (nI mm)), (2, .long lt)] dX3_tryPlan_34 (by decide) rfl ?_
    refine x_iload F 1 dX3_tryPlan_36 rfl ?_
    refine x_if_eq F 58 dX3_tryPlan_38 (by decide) (fun h38 => ?_) (fun h38 => ?_)
    · have h38n : 0 = 0 := (nI_eq (by decide) (by decide)).mp (h38.trans nI_0.symm)
      refine x_iload F 0 dX3_tryPlan_58 rfl ?_
      refine x_istore F [(6, .int (nI j)), (5, .int (nI j)), (4, .int (nI 0)), (0, .ref (as_ 100)), (1, .int (nI mm)), (2, .long lt)] dX3_tryPlan_60 (by decide) rfl ?_
      refine x_aload_n F 3 dX3_tryPlan_62 rfl ?_
      refine x_get F inUX3 0 1 rfl rfl (by decide) wfX3_22 rfl dX3_tryPlan_63 ?_
      refine x_iload F 1 dX3_tryPlan_66 rfl ?_
      refine x_iald F 1 (k := j) rfl (by omega) (by decide) dX3_tryPlan_68 ?_
      refine x_istore F [(7, .int (MS 1 j)), (6, .int (nI j)), (5, .int (nI j)), (4, .int (nI 0)), (0, .ref (as_ 100)), (1, .int (nI mm)), (2, .long lt)] dX3_tryPlan_69 (by decide) rfl ?_
      refine x_aload_n F 4 dX3_tryPlan_71 rfl ?_
      refine x_get F inUX3 0 1 rfl rfl (by decide) wfX3_22 rfl dX3_tryPlan_72 ?_
      refine x_iload F 1 dX3_tryPlan_75 rfl ?_
      refine x_iald F 1 (k := j) rfl (by omega) (by decide) dX3_tryPlan_77 ?_
      refine x_istore F [(8, .int (MS 1 j)), (7, .int (MS 1 j)), (6, .int (nI j)), (5, .int (nI j)), (4, .int (nI 0)), (0, .ref (as_ 100)), (1, .int (nI mm)), (2, .long lt)] dX3_tryPlan_78 (by decide) rfl ?_
      refine x_iload F 4 dX3_tryPlan_80 rfl ?_
      refine x_if_eq F 106 dX3_tryPlan_82 (by decide) (fun h82 => ?_) (fun h82 => ?_)
      · have h82n : 0 = 0 := (nI_eq (by decide) (by decide)).mp (h82.trans nI_0.symm)
        refine x_aload_n F 5 dX3_tryPlan_106 rfl ?_
        refine x_get F inUX3 0 9 rfl rfl (by decide) wfX3_55 rfl dX3_tryPlan_107 ?_
        refine x_bipush F (nI 24) dX3_tryPlan_110 (by decide +kernel) ?_
        refine x_iushr F (((MS 9 0).toUInt32 >>> ((nI 24).toUInt32 &&& Int32.toUInt32 31)).toInt32) dX3_tryPlan_112 rfl ?_
        refine x_top (nI (unat (MS 9 0) 24)) (ush_eq _ 24 (by decide +kernel)) ?_
        refine x_bipush F (nI 7) dX3_tryPlan_113 (by decide +kernel) ?_
        refine x_irem F ((nI (unat (MS 9 0) 24)) - (nI (unat (MS 9 0) 24)) / (nI 7) * (nI 7)) dX3_tryPlan_115 (by decide) rfl ?_
        refine x_top (nI (unat (MS 9 0) 24 % 7)) (pk_rem (unat_lt _ (by decide)) (by decide) (by decide)) ?_
        refine x_istore F [(9, .int (nI (unat (MS 9 0) 24 % 7))), (8, .int (MS 1 j)), (7, .int (MS 1 j)), (6, .int (nI j)), (5, .int (nI j)), (4, .int (nI 0)), (0, .ref (as_ 100)), (1, .int (nI mm)), (2, .long lt)] dX3_tryPlan_116 (by decide) rfl ?_
        refine x_aload_n F 6 dX3_tryPlan_118 rfl ?_
        refine x_get F inUX3 0 1 rfl rfl (by decide) wfX3_22 rfl dX3_tryPlan_119 ?_
        refine x_iload F 4 dX3_tryPlan_122 rfl ?_
        refine x_iload F 0 dX3_tryPlan_124 rfl ?_
        refine x_callSNr F [.int (nI j), .ref (as_ 1)] [] (c_X4_isRoom l D cA (nI (unat (MS 9 0) 24 % 7))) mwX4_isRoom F.2.1.2.1.2.2.2.2.1 rfl rfl (Nat.le_of_ble_eq_true rfl) ⟨by decide, by decide⟩ ⟨by show _ ≤ 0; omega, by show _ ≤ 0; omega⟩ rfl (by decide) dX3_tryPlan_126 (fun r1 hp2 => ?_)
        subst hp2
        refine x_if_eq F 137 dX3_tryPlan_129 (by decide) (fun h129 => ?_) (fun h129 => ?_)
        · have erm : (if unat (MS 9 0) 24 % 7 ≤ 5 then nI (unat (MS 9 0) 24 % 7) else (-1)) = (-1) := if_neg (fun z => bz_0.mp h129 (wn_in z (by decide)))
          refine x_iconst F (-1) dX3_tryPlan_137 (by decide +kernel) ?_
          refine x_iast F 1 (k := j) ((wS cA as_ (ad 100) L (st2 MS 1 j (-1)) JS mk) ++ (wF cA ad M)) rfl (by omega) (by decide) rfl dX3_tryPlan_138 ?_
          have et : tpl MS mm = upd (MS 1) j (if unat (MS 9 0) 24 % 7 ≤ 5 then nI (unat (MS 9 0) 24 % 7) else (-1)) := by unfold tpl; rw [if_neg h10n, ejx]
          have er : upd (upd (tpl MS mm) j (MS 1 j)) j (MS 1 j) = MS 1 := by rw [et]; exact put_back _ _ _
          refine x_ws ((wS cA as_ (ad 100) L (va_up MS 1 (tpl MS mm)) JS mk) ++ (wF cA ad M)) (by rw [show (st2 MS 1 j (-1)) = va_up MS 1 (tpl MS mm) from by rw [et, erm, st2_row0]]) ?_
          refine x_aload_n F 6 dX3_tryPlan_139 rfl ?_
          refine x_get F inUX3 0 0 rfl rfl (by decide) wfX3_12 rfl dX3_tryPlan_140 ?_
          refine x_aload_n F 6 dX3_tryPlan_143 rfl ?_
          refine x_get F inUX3 0 1 rfl rfl (by decide) wfX3_22 rfl dX3_tryPlan_144 ?_
          refine x_callV F [] ([0, 2, 3, 4, 5].filterMap (fun i => ((wS cA as_ (ad 100) L (va_up MS 1 (tpl MS mm)) JS mk) ++ (wF cA ad M))[i]?)) [6, 7, 8, 9, 10, 11, 12, 13, 14, 15, 1] [0, 2, 3, 4, 5] (c_X0_scoreOf l D cA ad M (as_ 1) (tpl MS mm)) mwX0_scoreOf wmX3_111 rfl (q0 := 0) rfl rfl rfl (Nat.le_of_ble_eq_true rfl) ⟨by decide, by decide⟩ ⟨by show _ ≤ 0; omega, by show _ ≤ 0; omega⟩ rfl rfl (by decide) (by decide) (by decide) dX3_tryPlan_147 (fun r3 u4 hp5 => ?_)
          obtain ⟨rfl, eu4⟩ := hp5
          refine x_sub ((wS cA as_ (ad 100) L (va_up MS 1 (tpl MS mm)) JS mk) ++ (wF cA ad u4)) [0, 15, 1, 2, 3, 4, 5, 6, 7, 8, 9, 10, 11, 12, 13, 14] rfl (by decide) ?_
          obtain ⟨vu4, evu4⟩ : ∃ z, z = scL M (tpl MS mm) := ⟨_, rfl⟩
          rw [← evu4]
          refine x_lstore F [(9, .long vu4), (8, .int (MS 1 j)), (7, .int (MS 1 j)), (6, .int (nI j)), (5, .int (nI j)), (4, .int (nI 0)), (0, .ref (as_ 100)), (1, .int (nI mm)), (2, .long lt)] dX3_tryPlan_150 (by decide) rfl ?_
          refine x_aload_n F 6 dX3_tryPlan_152 rfl ?_
          refine x_get F inUX3 0 6 rfl rfl (by decide) wfX3_38 rfl dX3_tryPlan_153 ?_
          refine x_lload F 0 dX3_tryPlan_156 rfl ?_
          refine x_lcmp F (lg_cmp (JS 6 0) vu4) dX3_tryPlan_158 rfl ?_
          refine x_if_ge F 190 dX3_tryPlan_159 (by decide) (fun h159 => ?_) (fun h159 => ?_)
          · refine x_aload_n F 6 dX3_tryPlan_190 rfl ?_
            refine x_lload F 0 dX3_tryPlan_191 rfl ?_
            refine x_put F inUX3 tyX3_ok nmX3 0 6 ((wS cA as_ (ad 100) L (va_up MS 1 (tpl MS mm)) (st3 JS 6 0 vu4) mk) ++ (wF cA ad u4)) rfl rfl (by decide) wfX3_38 rfl rfl rfl rfl (Nat.le_of_ble_eq_true rfl) rfl dX3_tryPlan_193 ?_
            refine x_aload_n F 6 dX3_tryPlan_196 rfl ?_
            refine x_dup F dX3_tryPlan_197 rfl ?_
            refine x_get F inUX3 0 10 rfl rfl (by decide) wfX3_49 rfl dX3_tryPlan_198 ?_
            refine x_iconst F (nI 1) dX3_tryPlan_201 (by decide +kernel) ?_
            refine x_iadd F (((va_up MS 1 (tpl MS mm)) 10 0) + (nI 1)) dX3_tryPlan_202 rfl ?_
            refine x_put F inUX3 tyX3_ok nmX3 0 10 ((wS cA as_ (ad 100) L (st2 (va_up MS 1 (tpl MS mm)) 10 0 (((va_up MS 1 (tpl MS mm)) 10 0) + (nI 1))) (st3 JS 6 0 vu4) mk) ++ (wF cA ad u4)) rfl rfl (by decide) wfX3_49 rfl rfl rfl rfl (Nat.le_of_ble_eq_true rfl) rfl dX3_tryPlan_203 ?_
            have etr : tryS mm lt (MS, JS, M) = if JS 6 0 < vu4 ∧ lt < vu4 then (MS, JS, u4) else (st2 (va_up MS 1 (tpl MS mm)) 10 0 (MS 10 0 + nI 1), st3 JS 6 0 vu4, u4) := by rw [evu4, eu4]; rfl
            exact x_vret F ((st2 (va_up MS 1 (tpl MS mm)) 10 0 (((va_up MS 1 (tpl MS mm)) 10 0) + (nI 1))), (st3 JS 6 0 vu4), u4) (⟨rfl, by rw [etr, if_neg (fun z => Int64.not_lt.mpr ((lg_cmp_ge _ _).mp h159) z.1)]; rfl⟩) (rfl) (by omega) (by omega) dX3_tryPlan_206
          · refine x_lload_n F 8 dX3_tryPlan_162 rfl ?_
            refine x_lload F 0 dX3_tryPlan_163 rfl ?_
            refine x_lcmp F (lg_cmp lt vu4) dX3_tryPlan_165 rfl ?_
            refine x_if_ge F 190 dX3_tryPlan_166 (by decide) (fun h166 => ?_) (fun h166 => ?_)
            · refine x_aload_n F 6 dX3_tryPlan_190 rfl ?_
              refine x_lload F 0 dX3_tryPlan_191 rfl ?_
              refine x_put F inUX3 tyX3_ok nmX3 0 6 ((wS cA as_ (ad 100) L (va_up MS 1 (tpl MS mm)) (st3 JS 6 0 vu4) mk) ++ (wF cA ad u4)) rfl rfl (by decide) wfX3_38 rfl rfl rfl rfl (Nat.le_of_ble_eq_true rfl) rfl dX3_tryPlan_193 ?_
              refine x_aload_n F 6 dX3_tryPlan_196 rfl ?_
              refine x_dup F dX3_tryPlan_197 rfl ?_
              refine x_get F inUX3 0 10 rfl rfl (by decide) wfX3_49 rfl dX3_tryPlan_198 ?_
              refine x_iconst F (nI 1) dX3_tryPlan_201 (by decide +kernel) ?_
              refine x_iadd F (((va_up MS 1 (tpl MS mm)) 10 0) + (nI 1)) dX3_tryPlan_202 rfl ?_
              refine x_put F inUX3 tyX3_ok nmX3 0 10 ((wS cA as_ (ad 100) L (st2 (va_up MS 1 (tpl MS mm)) 10 0 (((va_up MS 1 (tpl MS mm)) 10 0) + (nI 1))) (st3 JS 6 0 vu4) mk) ++ (wF cA ad u4)) rfl rfl (by decide) wfX3_49 rfl rfl rfl rfl (Nat.le_of_ble_eq_true rfl) rfl dX3_tryPlan_203 ?_
              have etr : tryS mm lt (MS, JS, M) = if JS 6 0 < vu4 ∧ lt < vu4 then (MS, JS, u4) else (st2 (va_up MS 1 (tpl MS mm)) 10 0 (MS 10 0 + nI 1), st3 JS 6 0 vu4, u4) := by rw [evu4, eu4]; rfl
              exact x_vret F ((st2 (va_up MS 1 (tpl MS mm)) 10 0 (((va_up MS 1 (tpl MS mm)) 10 0) + (nI 1))), (st3 JS 6 0 vu4), u4) (⟨rfl, by rw [etr, if_neg (fun z => Int64.not_lt.mpr ((lg_cmp_ge _ _).mp h166) z.2)]; rfl⟩) (rfl) (by omega) (by omega) dX3_tryPlan_206
            · refine x_aload_n F 6 dX3_tryPlan_169 rfl ?_
              refine x_get F inUX3 0 1 rfl rfl (by decide) wfX3_22 rfl dX3_tryPlan_170 ?_
              refine x_iload F 4 dX3_tryPlan_173 rfl ?_
              refine x_iload F 2 dX3_tryPlan_175 rfl ?_
              refine x_iast F 1 (k := j) ((wS cA as_ (ad 100) L (st2 (va_up MS 1 (tpl MS mm)) 1 j (MS 1 j)) JS mk) ++ (wF cA ad u4)) rfl (by omega) (by decide) rfl dX3_tryPlan_177 ?_
              refine x_aload_n F 6 dX3_tryPlan_178 rfl ?_
              refine x_get F inUX3 0 1 rfl rfl (by decide) wfX3_22 rfl dX3_tryPlan_179 ?_
              refine x_iload F 3 dX3_tryPlan_182 rfl ?_
              refine x_iload F 1 dX3_tryPlan_184 rfl ?_
              refine x_iast F 1 (k := j) ((wS cA as_ (ad 100) L (st2 (st2 (va_up MS 1 (tpl MS mm)) 1 j (MS 1 j)) 1 j (MS 1 j)) JS mk) ++ (wF cA ad u4)) rfl (by omega) (by decide) rfl dX3_tryPlan_186 ?_
              refine x_ws ((wS cA as_ (ad 100) L MS JS mk) ++ (wF cA ad u4)) (by rw [show (st2 (st2 (va_up MS 1 (tpl MS mm)) 1 j (MS 1 j)) 1 j (MS 1 j)) = MS from by rw [st2_row, st2_row, er, up_row]]) ?_
              refine x_goto F 206 dX3_tryPlan_187 (by decide) ?_
              have etr : tryS mm lt (MS, JS, M) = if JS 6 0 < vu4 ∧ lt < vu4 then (MS, JS, u4) else (st2 (va_up MS 1 (tpl MS mm)) 10 0 (MS 10 0 + nI 1), st3 JS 6 0 vu4, u4) := by rw [evu4, eu4]; rfl
              exact x_vret F (MS, JS, u4) (⟨rfl, by rw [etr, if_pos ⟨Int64.not_le.mp (fun z => h159 ((lg_cmp_ge _ _).mpr z)), Int64.not_le.mp (fun z => h166 ((lg_cmp_ge _ _).mpr z))⟩]⟩) (rfl) (by omega) (by omega) dX3_tryPlan_206
        · have erm : (if unat (MS 9 0) 24 % 7 ≤ 5 then nI (unat (MS 9 0) 24 % 7) else (-1)) = nI (unat (MS 9 0) 24 % 7) := if_pos ((nI_leI (by omega) (by decide)).mp (bz_n0.mp h129).2)
          refine x_iload F 0 dX3_tryPlan_132 rfl ?_
          refine x_goto F 138 dX3_tryPlan_134 (by decide) ?_
          refine x_iast F 1 (k := j) ((wS cA as_ (ad 100) L (st2 MS 1 j (nI (unat (MS 9 0) 24 % 7))) JS mk) ++ (wF cA ad M)) rfl (by omega) (by decide) rfl dX3_tryPlan_138 ?_
          have et : tpl MS mm = upd (MS 1) j (if unat (MS 9 0) 24 % 7 ≤ 5 then nI (unat (MS 9 0) 24 % 7) else (-1)) := by unfold tpl; rw [if_neg h10n, ejx]
          have er : upd (upd (tpl MS mm) j (MS 1 j)) j (MS 1 j) = MS 1 := by rw [et]; exact put_back _ _ _
          refine x_ws ((wS cA as_ (ad 100) L (va_up MS 1 (tpl MS mm)) JS mk) ++ (wF cA ad M)) (by rw [show (st2 MS 1 j (nI (unat (MS 9 0) 24 % 7))) = va_up MS 1 (tpl MS mm) from by rw [et, erm, st2_row0]]) ?_
          refine x_aload_n F 6 dX3_tryPlan_139 rfl ?_
          refine x_get F inUX3 0 0 rfl rfl (by decide) wfX3_12 rfl dX3_tryPlan_140 ?_
          refine x_aload_n F 6 dX3_tryPlan_143 rfl ?_
          refine x_get F inUX3 0 1 rfl rfl (by decide) wfX3_22 rfl dX3_tryPlan_144 ?_
          refine x_callV F [] ([0, 2, 3, 4, 5].filterMap (fun i => ((wS cA as_ (ad 100) L (va_up MS 1 (tpl MS mm)) JS mk) ++ (wF cA ad M))[i]?)) [6, 7, 8, 9, 10, 11, 12, 13, 14, 15, 1] [0, 2, 3, 4, 5] (c_X0_scoreOf l D cA ad M (as_ 1) (tpl MS mm)) mwX0_scoreOf wmX3_111 rfl (q0 := 0) rfl rfl rfl (Nat.le_of_ble_eq_true rfl) ⟨by decide, by decide⟩ ⟨by show _ ≤ 0; omega, by show _ ≤ 0; omega⟩ rfl rfl (by decide) (by decide) (by decide) dX3_tryPlan_147 (fun r6 u7 hp8 => ?_)
          obtain ⟨rfl, eu7⟩ := hp8
          refine x_sub ((wS cA as_ (ad 100) L (va_up MS 1 (tpl MS mm)) JS mk) ++ (wF cA ad u7)) [0, 15, 1, 2, 3, 4, 5, 6, 7, 8, 9, 10, 11, 12, 13, 14] rfl (by decide) ?_
          obtain ⟨vu7, evu7⟩ : ∃ z, z = scL M (tpl MS mm) := ⟨_, rfl⟩
          rw [← evu7]
          refine x_lstore F [(9, .long vu7), (8, .int (MS 1 j)), (7, .int (MS 1 j)), (6, .int (nI j)), (5, .int (nI j)), (4, .int (nI 0)), (0, .ref (as_ 100)), (1, .int (nI mm)), (2, .long lt)] dX3_tryPlan_150 (by decide) rfl ?_
          refine x_aload_n F 6 dX3_tryPlan_152 rfl ?_
          refine x_get F inUX3 0 6 rfl rfl (by decide) wfX3_38 rfl dX3_tryPlan_153 ?_
          refine x_lload F 0 dX3_tryPlan_156 rfl ?_
          refine x_lcmp F (lg_cmp (JS 6 0) vu7) dX3_tryPlan_158 rfl ?_
          refine x_if_ge F 190 dX3_tryPlan_159 (by decide) (fun h159 => ?_) (fun h159 => ?_)
          · refine x_aload_n F 6 dX3_tryPlan_190 rfl ?_
            refine x_lload F 0 dX3_tryPlan_191 rfl ?_
            refine x_put F inUX3 tyX3_ok nmX3 0 6 ((wS cA as_ (ad 100) L (va_up MS 1 (tpl MS mm)) (st3 JS 6 0 vu7) mk) ++ (wF cA ad u7)) rfl rfl (by decide) wfX3_38 rfl rfl rfl rfl (Nat.le_of_ble_eq_true rfl) rfl dX3_tryPlan_193 ?_
            refine x_aload_n F 6 dX3_tryPlan_196 rfl ?_
            refine x_dup F dX3_tryPlan_197 rfl ?_
            refine x_get F inUX3 0 10 rfl rfl (by decide) wfX3_49 rfl dX3_tryPlan_198 ?_
            refine x_iconst F (nI 1) dX3_tryPlan_201 (by decide +kernel) ?_
            refine x_iadd F (((va_up MS 1 (tpl MS mm)) 10 0) + (nI 1)) dX3_tryPlan_202 rfl ?_
            refine x_put F inUX3 tyX3_ok nmX3 0 10 ((wS cA as_ (ad 100) L (st2 (va_up MS 1 (tpl MS mm)) 10 0 (((va_up MS 1 (tpl MS mm)) 10 0) + (nI 1))) (st3 JS 6 0 vu7) mk) ++ (wF cA ad u7)) rfl rfl (by decide) wfX3_49 rfl rfl rfl rfl (Nat.le_of_ble_eq_true rfl) rfl dX3_tryPlan_203 ?_
            have etr : tryS mm lt (MS, JS, M) = if JS 6 0 < vu7 ∧ lt < vu7 then (MS, JS, u7) else (st2 (va_up MS 1 (tpl MS mm)) 10 0 (MS 10 0 + nI 1), st3 JS 6 0 vu7, u7) := by rw [evu7, eu7]; rfl
            exact x_vret F ((st2 (va_up MS 1 (tpl MS mm)) 10 0 (((va_up MS 1 (tpl MS mm)) 10 0) + (nI 1))), (st3 JS 6 0 vu7), u7) (⟨rfl, by rw [etr, if_neg (fun z => Int64.not_lt.mpr ((lg_cmp_ge _ _).mp h159) z.1)]; rfl⟩) (rfl) (by omega) (by omega) dX3_tryPlan_206
          · refine x_lload_n F 8 dX3_tryPlan_162 rfl ?_
            refine x_lload F 0 dX3_tryPlan_163 rfl ?_
            refine x_lcmp F (lg_cmp lt vu7) dX3_tryPlan_165 rfl ?_
            refine x_if_ge F 190 dX3_tryPlan_166 (by decide) (fun h166 => ?_) (fun h166 => ?_)
            · refine x_aload_n F 6 dX3_tryPlan_190 rfl ?_
              refine x_lload F 0 dX3_tryPlan_191 rfl ?_
              refine x_put F inUX3 tyX3_ok nmX3 0 6 ((wS cA as_ (ad 100) L (va_up MS 1 (tpl MS mm)) (st3 JS 6 0 vu7) mk) ++ (wF cA ad u7)) rfl rfl (by decide) wfX3_38 rfl rfl rfl rfl (Nat.le_of_ble_eq_true rfl) rfl dX3_tryPlan_193 ?_
              refine x_aload_n F 6 dX3_tryPlan_196 rfl ?_
              refine x_dup F dX3_tryPlan_197 rfl ?_
              refine x_get F inUX3 0 10 rfl rfl (by decide) wfX3_49 rfl dX3_tryPlan_198 ?_
              refine x_iconst F (nI 1) dX3_tryPlan_201 (by decide +kernel) ?_
              refine x_iadd F (((va_up MS 1 (tpl MS mm)) 10 0) + (nI 1)) dX3_tryPlan_202 rfl ?_
              refine x_put F inUX3 tyX3_ok nmX3 0 10 ((wS cA as_ (ad 100) L (st2 (va_up MS 1 (tpl MS mm)) 10 0 (((va_up MS 1 (tpl MS mm)) 10 0) + (nI 1))) (st3 JS 6 0 vu7) mk) ++ (wF cA ad u7)) rfl rfl (by decide) wfX3_49 rfl rfl rfl rfl (Nat.le_of_ble_eq_true rfl) rfl dX3_tryPlan_203 ?_
              have etr : tryS mm lt (MS, JS, M) = if JS 6 0 < vu7 ∧ lt < vu7 then (MS, JS, u7) else (st2 (va_up MS 1 (tpl MS mm)) 10 0 (MS 10 0 + nI 1), st3 JS 6 0 vu7, u7) := by rw [evu7, eu7]; rfl
              exact x_vret F ((st2 (va_up MS 1 (tpl MS mm)) 10 0 (((va_up MS 1 (tpl MS mm)) 10 0) + (nI 1))), (st3 JS 6 0 vu7), u7) (⟨rfl, by rw [etr, if_neg (fun z => Int64.not_lt.mpr ((lg_cmp_ge _ _).mp h166) z.2)]; rfl⟩) (rfl) (by omega) (by omega) dX3_tryPlan_206
            · refine x_aload_n F 6 dX3_tryPlan_169 rfl ?_
              refine x_get F inUX3 0 1 rfl rfl (by decide) wfX3_22 rfl dX3_tryPlan_170 ?_
              refine x_iload F 4 dX3_tryPlan_173 rfl ?_
              refine x_iload F 2 dX3_tryPlan_175 rfl ?_
              refine x_iast F 1 (k := j) ((wS cA as_ (ad 100) L (st2 (va_up MS 1 (tpl MS mm)) 1 j (MS 1 j)) JS mk) ++ (wF cA ad u7)) rfl (by omega) (by decide) rfl dX3_tryPlan_177 ?_
              refine x_aload_n F 6 dX3_tryPlan_178 rfl ?_
              refine x_get F inUX3 0 1 rfl rfl (by decide) wfX3_22 rfl dX3_tryPlan_179 ?_
              refine x_iload F 3 dX3_tryPlan_182 rfl ?_
              refine x_iload F 1 dX3_tryPlan_184 rfl ?_
              refine x_iast F 1 (k := j) ((wS cA as_ (ad 100) L (st2 (st2 (va_up MS 1 (tpl MS mm)) 1 j (MS 1 j)) 1 j (MS 1 j)) JS mk) ++ (wF cA ad u7)) rfl (by omega) (by decide) rfl dX3_tryPlan_186 ?_
              refine x_ws ((wS cA as_ (ad 100) L MS JS mk) ++ (wF cA ad u7)) (by rw [show (st2 (st2 (va_up MS 1 (tpl MS mm)) 1 j (MS 1 j)) 1 j (MS 1 j)) = MS from by rw [st2_row, st2_row, er, up_row]]) ?_
              refine x_goto F 206 dX3_tryPlan_187 (by decide) ?_
              have etr : tryS mm lt (MS, JS, M) = if JS 6 0 < vu7 ∧ lt < vu7 then (MS, JS, u7) else (st2 (va_up MS 1 (tpl MS mm)) 10 0 (MS 10 0 + nI 1), st3 JS 6 0 vu7, u7) := by rw [evu7, eu7]; rfl
              exact x_vret F (MS, JS, u7) (⟨rfl, by rw [etr, if_pos ⟨Int64.not_le.mp (fun z => h159 ((lg_cmp_ge _ _).mpr z)), Int64.not_le.mp (fun z => h166 ((lg_cmp_ge _ _).mpr z))⟩]⟩) (rfl) (by omega) (by omega) dX3_tryPlan_206
      · have h82n : ¬ 0 = 0 := fun z => h82 (((nI_eq (by decide) (by decide)).mpr z).trans nI_0)
        exact absurd h82n (by decide)
    · have h38n : ¬ 0 = 0 := fun z => h38 (((nI_eq (by decide) (by decide)).mpr z).trans nI_0)
      exact absurd h38n (by decide)
  · have h10n : (unat (MS 9 0) 8 % 4) = 3 := (nI_eq (by omega) (by decide)).mp h10
    refine x_iconst F (nI 1) dX3_tryPlan_13 (by decide +kernel) ?_
    refine x_goto F 18 dX3_tryPlan_14 (by decide) ?_
    refine x_istore F [(4, .int (nI 1)), (0, .ref (as_ 100)), (1, .int (nI mm)), (2, .long lt)] dX3_tryPlan_18 (by decide) rfl ?_
    refine x_aload_n F 1 dX3_tryPlan_20 rfl ?_
    refine x_get F inUX3 0 5 rfl rfl (by decide) wfX3_35 rfl dX3_tryPlan_21 ?_
    refine x_aload_n F 1 dX3_tryPlan_24 rfl ?_
    refine x_get F inUX3 0 9 rfl rfl (by decide) wfX3_55 rfl dX3_tryPlan_25 ?_
    refine x_bipush F (nI 16) dX3_tryPlan_28 (by decide +kernel) ?_
    refine x_iushr F (((MS 9 0).toUInt32 >>> ((nI 16).toUInt32 &&& Int32.toUInt32 31)).toInt32) dX3_tryPlan_30 rfl ?_
    refine x_top (nI (unat (MS 9 0) 16)) (ush_eq _ 16 (by decide +kernel)) ?_
    refine x_iload_n F 2 dX3_tryPlan_31 rfl ?_
    refine x_irem F ((nI (unat (MS 9 0) 16)) - (nI (unat (MS 9 0) 16)) / (nI mm) * (nI mm)) dX3_tryPlan_32 (nI_ne0 hmm (by omega)) rfl ?_
    refine x_top (nI (unat (MS 9 0) 16 % mm)) (pk_rem (unat_lt _ (by decide)) hmm (by omega)) ?_
    refine x_iald F 5 (k := unat (MS 9 0) 16 % mm) rfl (Nat.lt_of_lt_of_le (Nat.mod_lt _ hmm) hm16) (by decide) dX3_tryPlan_33 ?_
    refine x_top (nI j) (ej) ?_
    refine x_istore F [(5, .int (nI j)), (4, .int (nI 1)), (0, .ref (as_ 100)), (1, .int (nI mm)), (2, .long lt)] dX3_tryPlan_34 (by decide) rfl ?_
    refine x_iload F 1 dX3_tryPlan_36 rfl ?_
    refine x_if_eq F 58 dX3_tryPlan_38 (by decide) (fun h38 => ?_) (fun h38 => ?_)
    · have h38n : 1 = 0 := (nI_eq (by decide) (by decide)).mp (h38.trans nI_0.symm)
      exact absurd h38n (by decide)
    · have h38n : ¬ 1 = 0 := fun z => h38 (((nI_eq (by decide) (by decide)).mpr z).trans nI_0)
      refine x_aload_n F 2 dX3_tryPlan_41 rfl ?_
      refine x_get F inUX3 0 5 rfl rfl (by decide) wfX3_35 rfl dX3_tryPlan_42 ?_
      refine x_aload_n F 2 dX3_tryPlan_45 rfl ?_
      refine x_get F inUX3 0 9 rfl rfl (by decide) wfX3_55 rfl dX3_tryPlan_46 ?_
      refine x_bipush F (nI 20) dX3_tryPlan_49 (by decide +kernel) ?_
      refine x_iushr F (((MS 9 0).toUInt32 >>> ((nI 20).toUInt32 &&& Int32.toUInt32 31)).toInt32) dX3_tryPlan_51 rfl ?_
      refine x_top (nI (unat (MS 9 0) 20)) (ush_eq _ 20 (by decide +kernel)) ?_
      refine x_iload_n F 3 dX3_tryPlan_52 rfl ?_
      refine x_irem F ((nI (unat (MS 9 0) 20)) - (nI (unat (MS 9 0) 20)) / (nI mm) * (nI mm)) dX3_tryPlan_53 (nI_ne0 hmm (by omega)) rfl ?_
      refine x_top (nI (unat (MS 9 0) 20 % mm)) (pk_rem (unat_lt _ (by decide)) hmm (by omega)) ?_
      refine x_iald F 5 (k := unat (MS 9 0) 20 % mm) rfl (Nat.lt_of_lt_of_le (Nat.mod_lt _ hmm) hm16) (by decide) dX3_tryPlan_54 ?_
      refine x_top (nI k) (ek) ?_
      refine x_goto F 60 dX3_tryPlan_55 (by decide) ?_
      refine x_istore F [(6, .int (nI k)), (5, .int (nI j)), (4, .int (nI 1)), (0, .ref (as_ 100)), (1, .int (nI mm)), (2, .long lt)] dX3_tryPlan_60 (by decide) rfl ?_
      refine x_aload_n F 3 dX3_tryPlan_62 rfl ?_
      refine x_get F inUX3 0 1 rfl rfl (by decide) wfX3_22 rfl dX3_tryPlan_63 ?_
      refine x_iload F 1 dX3_tryPlan_66 rfl ?_
      refine x_iald F 1 (k := j) rfl (by omega) (by decide) dX3_tryPlan_68 ?_
      refine x_istore F [(7, .int (MS 1 j)), (6, .int (nI k)), (5, .int (nI j)), (4, .int (nI 1)), (0, .ref (as_ 100)), (1, .int (nI mm)), (2, .long lt)] dX3_tryPlan_69 (by decide) rfl ?_
      refine x_aload_n F 4 dX3_tryPlan_71 rfl ?_
      refine x_get F inUX3 0 1 rfl rfl (by decide) wfX3_22 rfl dX3_tryPlan_72 ?_
      refine x_iload F 1 dX3_tryPlan_75 rfl ?_
      refine x_iald F 1 (k := k) rfl (by omega) (by decide) dX3_tryPlan_77 ?_
      refine x_istore F [(8, .int (MS 1 k)), (7, .int (MS 1 j)), (6, .int (nI k)), (5, .int (nI j)), (4, .int (nI 1)), (0, .ref (as_ 100)), (1, .int (nI mm)), (2, .long lt)] dX3_tryPlan_78 (by decide) rfl ?_
      refine x_iload F 4 dX3_tryPlan_80 rfl ?_
      refine x_if_eq F 106 dX3_tryPlan_82 (by decide) (fun h82 => ?_) (fun h82 => ?_)
      · have h82n : 1 = 0 := (nI_eq (by decide) (by decide)).mp (h82.trans nI_0.symm)
        exact absurd h82n (by decide)
      · have h82n : ¬ 1 = 0 := fun z => h82 (((nI_eq (by decide) (by decide)).mpr z).trans nI_0)
        refine x_aload_n F 5 dX3_tryPlan_85 rfl ?_
        refine x_get F inUX3 0 1 rfl rfl (by decide) wfX3_22 rfl dX3_tryPlan_86 ?_
        refine x_iload F 3 dX3_tryPlan_89 rfl ?_
        refine x_iload F 0 dX3_tryPlan_91 rfl ?_
        refine x_iast F 1 (k := j) ((wS cA as_ (ad 100) L (st2 MS 1 j (MS 1 k)) JS mk) ++ (wF cA ad M)) rfl (by omega) (by decide) rfl dX3_tryPlan_93 ?_
        refine x_aload_n F 5 dX3_tryPlan_94 rfl ?_
        refine x_get F inUX3 0 1 rfl rfl (by decide) wfX3_22 rfl dX3_tryPlan_95 ?_
        refine x_iload F 2 dX3_tryPlan_98 rfl ?_
        refine x_iload F 1 dX3_tryPlan_100 rfl ?_
        refine x_iast F 1 (k := k) ((wS cA as_ (ad 100) L (st2 (st2 MS 1 j (MS 1 k)) 1 k (MS 1 j)) JS mk) ++ (wF cA ad M)) rfl (by omega) (by decide) rfl dX3_tryPlan_102 ?_
        refine x_goto F 139 dX3_tryPlan_103 (by decide) ?_
        have et : tpl MS mm = upd (upd (MS 1) j (MS 1 k)) k (MS 1 j) := by unfold tpl; rw [if_pos h10n, ejx, ekx]
        have er : upd (upd (tpl MS mm) j (MS 1 j)) k (MS 1 k) = MS 1 := by rw [et]; exact swap_back _ _ _
        refine x_ws ((wS cA as_ (ad 100) L (va_up MS 1 (tpl MS mm)) JS mk) ++ (wF cA ad M)) (by rw [show (st2 (st2 MS 1 j (MS 1 k)) 1 k (MS 1 j)) = va_up MS 1 (tpl MS mm) from by rw [et, st2_row0 MS 1 j, st2_row]]) ?_
        refine x_aload_n F 5 dX3_tryPlan_139 rfl ?_
        refine x_get F inUX3 0 0 rfl rfl (by decide) wfX3_12 rfl dX3_tryPlan_140 ?_
        refine x_aload_n F 5 dX3_tryPlan_143 rfl ?_
        refine x_get F inUX3 0 1 rfl rfl (by decide) wfX3_22 rfl dX3_tryPlan_144 ?_
        refine x_callV F [] ([0, 2, 3, 4, 5].filterMap (fun i => ((wS cA as_ (ad 100) L (va_up MS 1 (tpl MS mm)) JS mk) ++ (wF cA ad M))[i]?)) [6, 7, 8, 9, 10, 11, 12, 13, 14, 15, 1] [0, 2, 3, 4, 5] (c_X0_scoreOf l D cA ad M (as_ 1) (tpl MS mm)) mwX0_scoreOf wmX3_111 rfl (q0 := 0) rfl rfl rfl (Nat.le_of_ble_eq_true rfl) ⟨by decide, by decide⟩ ⟨by show _ ≤ 0; omega, by show _ ≤ 0; omega⟩ rfl rfl (by decide) (by decide) (by decide) dX3_tryPlan_147 (fun r9 u10 hp11 => ?_)
        obtain ⟨rfl, eu10⟩ := hp11
        refine x_sub ((wS cA as_ (ad 100) L (va_up MS 1 (tpl MS mm)) JS mk) ++ (wF cA ad u10)) [0, 15, 1, 2, 3, 4, 5, 6, 7, 8, 9, 10, 11, 12, 13, 14] rfl (by decide) ?_
        obtain ⟨vu10, evu10⟩ : ∃ z, z = scL M (tpl MS mm) := ⟨_, rfl⟩
        rw [← evu10]
        refine x_lstore F [(9, .long vu10), (8, .int (MS 1 k)), (7, .int (MS 1 j)), (6, .int (nI k)), (5, .int (nI j)), (4, .int (nI 1)), (0, .ref (as_ 100)), (1, .int (nI mm)), (2, .long lt)] dX3_tryPlan_150 (by decide) rfl ?_
        refine x_aload_n F 6 dX3_tryPlan_152 rfl ?_
        refine x_get F inUX3 0 6 rfl rfl (by decide) wfX3_38 rfl dX3_tryPlan_153 ?_
        refine x_lload F 0 dX3_tryPlan_156 rfl ?_
        refine x_lcmp F (lg_cmp (JS 6 0) vu10) dX3_tryPlan_158 rfl ?_
        refine x_if_ge F 190 dX3_tryPlan_159 (by decide) (fun h159 => ?_) (fun h159 => ?_)
        · refine x_aload_n F 6 dX3_tryPlan_190 rfl ?_
          refine x_lload F 0 dX3_tryPlan_191 rfl ?_
          refine x_put F inUX3 tyX3_ok nmX3 0 6 ((wS cA as_ (ad 100) L (va_up MS 1 (tpl MS mm)) (st3 JS 6 0 vu10) mk) ++ (wF cA ad u10)) rfl rfl (by decide) wfX3_38 rfl rfl rfl rfl (Nat.le_of_ble_eq_true rfl) rfl dX3_tryPlan_193 ?_
          refine x_aload_n F 6 dX3_tryPlan_196 rfl ?_
          refine x_dup F dX3_tryPlan_197 rfl ?_
          refine x_get F inUX3 0 10 rfl rfl (by decide) wfX3_49 rfl dX3_tryPlan_198 ?_
          refine x_iconst F (nI 1) dX3_tryPlan_201 (by decide +kernel) ?_
          refine x_iadd F (((va_up MS 1 (tpl MS mm)) 10 0) + (nI 1)) dX3_tryPlan_202 rfl ?_
          refine x_put F inUX3 tyX3_ok nmX3 0 10 ((wS cA as_ (ad 100) L (st2 (va_up MS 1 (tpl MS mm)) 10 0 (((va_up MS 1 (tpl MS mm)) 10 0) + (nI 1))) (st3 JS 6 0 vu10) mk) ++ (wF cA ad u10)) rfl rfl (by decide) wfX3_49 rfl rfl rfl rfl (Nat.le_of_ble_eq_true rfl) rfl dX3_tryPlan_203 ?_
          have etr : tryS mm lt (MS, JS, M) = if JS 6 0 < vu10 ∧ lt < vu10 then (MS, JS, u10) else (st2 (va_up MS 1 (tpl MS mm)) 10 0 (MS 10 0 + nI 1), st3 JS 6 0 vu10, u10) := by rw [evu10, eu10]; rfl
          exact x_vret F ((st2 (va_up MS 1 (tpl MS mm)) 10 0 (((va_up MS 1 (tpl MS mm)) 10 0) + (nI 1))), (st3 JS 6 0 vu10), u10) (⟨rfl, by rw [etr, if_neg (fun z => Int64.not_lt.mpr ((lg_cmp_ge _ _).mp h159) z.1)]; rfl⟩) (rfl) (by omega) (by omega) dX3_tryPlan_206
        · refine x_lload_n F 8 dX3_tryPlan_162 rfl ?_
          refine x_lload F 0 dX3_tryPlan_163 rfl ?_
          refine x_lcmp F (lg_cmp lt vu10) dX3_tryPlan_165 rfl ?_
          refine x_if_ge F 190 dX3_tryPlan_166 (by decide) (fun h166 => ?_) (fun h166 => ?_)
          · refine x_aload_n F 6 dX3_tryPlan_190 rfl ?_
            refine x_lload F 0 dX3_tryPlan_191 rfl ?_
            refine x_put F inUX3 tyX3_ok nmX3 0 6 ((wS cA as_ (ad 100) L (va_up MS 1 (tpl MS mm)) (st3 JS 6 0 vu10) mk) ++ (wF cA ad u10)) rfl rfl (by decide) wfX3_38 rfl rfl rfl rfl (Nat.le_of_ble_eq_true rfl) rfl dX3_tryPlan_193 ?_
            refine x_aload_n F 6 dX3_tryPlan_196 rfl ?_
            refine x_dup F dX3_tryPlan_197 rfl ?_
            refine x_get F inUX3 0 10 rfl rfl (by decide) wfX3_49 rfl dX3_tryPlan_198 ?_
            refine x_iconst F (nI 1) dX3_tryPlan_201 (by decide +kernel) ?_
            refine x_iadd F (((va_up MS 1 (tpl MS mm)) 10 0) + (nI 1)) dX3_tryPlan_202 rfl ?_
            refine x_put F inUX3 tyX3_ok nmX3 0 10 ((wS cA as_ (ad 100) L (st2 (va_up MS 1 (tpl MS mm)) 10 0 (((va_up MS 1 (tpl MS mm)) 10 0) + (nI 1))) (st3 JS 6 0 vu10) mk) ++ (wF cA ad u10)) rfl rfl (by decide) wfX3_49 rfl rfl rfl rfl (Nat.le_of_ble_eq_true rfl) rfl dX3_tryPlan_203 ?_
            have etr : tryS mm lt (MS, JS, M) = if JS 6 0 < vu10 ∧ lt < vu10 then (MS, JS, u10) else (st2 (va_up MS 1 (tpl MS mm)) 10 0 (MS 10 0 + nI 1), st3 JS 6 0 vu10, u10) := by rw [evu10, eu10]; rfl
            exact x_vret F ((st2 (va_up MS 1 (tpl MS mm)) 10 0 (((va_up MS 1 (tpl MS mm)) 10 0) + (nI 1))), (st3 JS 6 0 vu10), u10) (⟨rfl, by rw [etr, if_neg (fun z => Int64.not_lt.mpr ((lg_cmp_ge _ _).mp h166) z.2)]; rfl⟩) (rfl) (by omega) (by omega) dX3_tryPlan_206
          · refine x_aload_n F 6 dX3_tryPlan_169 rfl ?_
            refine x_get F inUX3 0 1 rfl rfl (by decide) wfX3_22 rfl dX3_tryPlan_170 ?_
            refine x_iload F 4 dX3_tryPlan_173 rfl ?_
            refine x_iload F 2 dX3_tryPlan_175 rfl ?_
            refine x_iast F 1 (k := j) ((wS cA as_ (ad 100) L (st2 (va_up MS 1 (tpl MS mm)) 1 j (MS 1 j)) JS mk) ++ (wF cA ad u10)) rfl (by omega) (by decide) rfl dX3_tryPlan_177 ?_
            refine x_aload_n F 6 dX3_tryPlan_178 rfl ?_
            refine x_get F inUX3 0 1 rfl rfl (by decide) wfX3_22 rfl dX3_tryPlan_179 ?_
            refine x_iload F 3 dX3_tryPlan_182 rfl ?_
            refine x_iload F 1 dX3_tryPlan_184 rfl ?_
            refine x_iast F 1 (k := k) ((wS cA as_ (ad 100) L (st2 (st2 (va_up MS 1 (tpl MS mm)) 1 j (MS 1 j)) 1 k (MS 1 k)) JS mk) ++ (wF cA ad u10)) rfl (by omega) (by decide) rfl dX3_tryPlan_186 ?_
            refine x_ws ((wS cA as_ (ad 100) L MS JS mk) ++ (wF cA ad u10)) (by rw [show (st2 (st2 (va_up MS 1 (tpl MS mm)) 1 j (MS 1 j)) 1 k (MS 1 k)) = MS from by rw [st2_row, st2_row, er, up_row]]) ?_
            refine x_goto F 206 dX3_tryPlan_187 (by decide) ?_
            have etr : tryS mm lt (MS, JS, M) = if JS 6 0 < vu10 ∧ lt < vu10 then (MS, JS, u10) else (st2 (va_up MS 1 (tpl MS mm)) 10 0 (MS 10 0 + nI 1), st3 JS 6 0 vu10, u10) := by rw [evu10, eu10]; rfl
            exact x_vret F (MS, JS, u10) (⟨rfl, by rw [etr, if_pos ⟨Int64.not_le.mp (fun z => h159 ((lg_cmp_ge _ _).mpr z)), Int64.not_le.mp (fun z => h166 ((lg_cmp_ge _ _).mpr z))⟩]⟩) (rfl) (by omega) (by omega) dX3_tryPlan_206

set_option maxHeartbeats 4000000 in
set_option maxRecDepth 100000 in
theorem c_X3_makeStep (l : Launch) (D : va_G) (cA : Nat → ClassId) (as_ : Nat → Nat) (L : Nat) (MS : Nat → Nat → Int32) (JS : Nat → Nat → Int64) (mk : Nat → Option Nat) (ad : Nat → Nat) (M : Nat → Nat → Int32) (mm t : Nat) (hmm : mm ≤ 16) (hmv : ∀ i, i < mm → ∃ j : Nat, j < 16 ∧ MS 5 i = nI j) (ht : MS 8 0 = nI t) (ht2 : t < 2 ^ 30) (hL : 0 < L) (hL2 : L < 2 ^ 31) : Cg l D cA yX3_makeStep cX3_makeStep 3 none 4 0 0 ([.ref (as_ 100), .int (nI mm)] : List Value) ((wS cA as_ (ad 100) L MS JS mk) ++ (wF cA ad M)) (fun (r : Option Value) (u : SJM) => r = none ∧ u = stepS mm L t (MS, JS, M)) (fun u : SJM => (wS cA as_ (ad 100) L (u.1) (u.2.1) mk) ++ (wF cA ad (u.2.2))) := by
  refine x_met (by decide +kernel) rfl (Nat.le_of_ble_eq_true rfl) ?_
  intro xp xe xs xm xbl xme xco F hnm
  refine x_lv [(0, .ref (as_ 100)), (1, .int (nI mm))] [0, 1] rfl ?_
  refine x_aload_n F 0 dX3_makeStep_0 rfl ?_
  refine x_aload_n F 0 dX3_makeStep_1 rfl ?_
  refine x_get F inUX3 0 9 rfl rfl (by decide) wfX3_55 rfl dX3_makeStep_2 ?_
  refine x_ldc F (1103515245) wvX3_129 dX3_makeStep_5 ?_
  refine x_top (nI 1103515245) (by decide +kernel) ?_
  refine x_imul F ((MS 9 0) * (nI 1103515245)) dX3_makeStep_7 rfl ?_
  refine x_sipush F (nI 12345) dX3_makeStep_8 (by decide +kernel) ?_
  refine x_iadd F (((MS 9 0) * (nI 1103515245)) + (nI 12345)) dX3_makeStep_11 rfl ?_
  refine x_put F inUX3 tyX3_ok nmX3 0 9 ((wS cA as_ (ad 100) L (st2 MS 9 0 (((MS 9 0) * (nI 1103515245)) + (nI 12345))) JS mk) ++ (wF cA ad M)) rfl rfl (by decide) wfX3_55 rfl rfl rfl rfl (Nat.le_of_ble_eq_true rfl) rfl dX3_makeStep_12 ?_
  refine x_ws ((wS cA as_ (ad 100) L ((turnX (MS, JS, M)).1) JS mk) ++ (wF cA ad M)) rfl ?_
  obtain ⟨A1, eA1⟩ : ∃ z, z = (turnX (MS, JS, M)).1 := ⟨_, rfl⟩
  rw [← eA1]
  have h8 : A1 8 0 = nI t := by rw [eA1]; exact ht
  have h5 : A1 5 = MS 5 := by rw [eA1]; rfl
  have hml := Nat.mod_lt t hL
  refine x_aload_n F 0 dX3_makeStep_15 rfl ?_
  refine x_callVr F [] [0, 1, 2, 3, 4, 5] (c_X3_latePlace l D cA as_ L A1 JS mk (ad 100) t h8 (by omega) hL hL2) mwX3_latePlace wmX3_130 rfl (q0 := 0) rfl rfl rfl (Nat.le_of_ble_eq_true rfl) ⟨by decide, by decide⟩ ⟨by show _ ≤ 0; omega, by show _ ≤ 0; omega⟩ rfl (by decide) dX3_makeStep_16 (fun r1 hp2 => ?_)
  subst hp2
  refine x_istore_n F [(2, .int (nI (t % L))), (0, .ref (as_ 100)), (1, .int (nI mm))] dX3_makeStep_19 (by decide) rfl ?_
  refine x_iload_n F 2 dX3_makeStep_20 rfl ?_
  refine x_if_le F 35 dX3_makeStep_21 (by decide) (fun h21 => ?_) (fun h21 => ?_)
  · have h21n : mm ≤ 0 := (nI_leI (by omega) (by decide)).mp (by rw [nI_0]; exact h21)
    have em : ¬ 0 < mm := by omega
    obtain ⟨sg, esg⟩ : ∃ z : SJM, z = (A1, JS, M) := ⟨_, rfl⟩
    refine x_ws ((wS cA as_ (ad 100) L (sg.1) (sg.2.1) mk) ++ (wF cA ad (sg.2.2))) (by subst esg; rfl) ?_
    have h8s : sg.1 8 0 = nI t := by rw [esg]; exact h8
    refine x_aload_n F 1 dX3_makeStep_35 rfl ?_
    refine x_get F inUX3 0 3 rfl rfl (by decide) wfX3_58 rfl dX3_makeStep_36 ?_
    refine x_iload_n F 0 dX3_makeStep_39 rfl ?_
    refine x_aload_n F 1 dX3_makeStep_40 rfl ?_
    refine x_get F inUX3 0 6 rfl rfl (by decide) wfX3_38 rfl dX3_makeStep_41 ?_
    refine x_last F 3 (k := t % L) ((wS cA as_ (ad 100) L (sg.1) (st3 (sg.2.1) 3 (t % L) ((sg.2.1) 6 0)) mk) ++ (wF cA ad (sg.2.2))) rfl (by omega) (by omega) rfl dX3_makeStep_44 ?_
    refine x_ws ((wS cA as_ (ad 100) L ((lateP (t % L) sg).1) ((lateP (t % L) sg).2.1) mk) ++ (wF cA ad ((lateP (t % L) sg).2.2))) rfl ?_
    obtain ⟨sl, esl⟩ : ∃ z, z = lateP (t % L) sg := ⟨_, rfl⟩
    rw [← esl]
    refine x_aload_n F 1 dX3_makeStep_45 rfl ?_
    refine x_callV F [] ([]) [0, 1, 2, 3, 4, 5, 6, 7, 8, 9, 10, 11, 12, 13, 14, 15] [] (c_X3_keepIfBest l D cA as_ L (sl.1) (sl.2.1) mk ad (sl.2.2)) mwX3_keepIfBest wmX3_89 rfl (q0 := 0) rfl rfl rfl (Nat.le_of_ble_eq_true rfl) ⟨by decide, by decide⟩ ⟨by show _ ≤ 0; omega, by show _ ≤ 0; omega⟩ rfl rfl (by decide) (by decide) (by decide) dX3_makeStep_46 (fun r3 u4 hp5 => ?_)
    obtain ⟨rfl, rfl⟩ := hp5
    obtain ⟨sg6, esg6⟩ : ∃ z, z = keepB ((sl.1), (sl.2.1), (sl.2.2)) := ⟨_, rfl⟩
    rw [← esg6]
    refine x_aload_n F 1 dX3_makeStep_49 rfl ?_
    refine x_dup F dX3_makeStep_50 rfl ?_
    refine x_get F inUX3 0 8 rfl rfl (by decide) wfX3_45 rfl dX3_makeStep_51 ?_
    have h8k : sg6.1 8 0 = nI t := by rw [esg6, show keepB (sl.1, sl.2.1, sl.2.2) = keepB sl from rfl, keepB_o _ 8 (by decide) (by decide), esl]; exact h8s
    refine x_top (nI t) (h8k) ?_
    refine x_iconst F (nI 1) dX3_makeStep_54 (by decide +kernel) ?_
    refine x_iadd F (nI (t + 1)) dX3_makeStep_55 (nI_add _ _) ?_
    refine x_put F inUX3 tyX3_ok nmX3 0 8 ((wS cA as_ (ad 100) L (st2 (sg6.1) 8 0 (nI (t + 1))) (sg6.2.1) mk) ++ (wF cA ad (sg6.2.2))) rfl rfl (by decide) wfX3_45 rfl rfl rfl rfl (Nat.le_of_ble_eq_true rfl) rfl dX3_makeStep_56 ?_
    exact x_vret F ((st2 (sg6.1) 8 0 (nI (t + 1))), (sg6.2.1), (sg6.2.2)) (⟨rfl, by unfold stepS; rw [if_neg em, show turnX (MS, JS, M) = (A1, JS, M) from by rw [eA1]; rfl, ← esg, ← esl, show keepB sl = sg6 from esg6.symm]; rfl⟩) (rfl) (by omega) (by omega) dX3_makeStep_59
  · have h21n : ¬ mm ≤ 0 := fun z => h21 (by have w := ((nI_leI (by omega) (by decide)).mpr z); rw [nI_0] at w; exact w)
    have em : 0 < mm := by omega
    refine x_aload_n F 1 dX3_makeStep_24 rfl ?_
    refine x_iload_n F 2 dX3_makeStep_25 rfl ?_
    refine x_aload_n F 1 dX3_makeStep_26 rfl ?_
    refine x_get F inUX3 0 3 rfl rfl (by decide) wfX3_58 rfl dX3_makeStep_27 ?_
    refine x_iload_n F 0 dX3_makeStep_30 rfl ?_
    refine x_lald F 3 (k := t % L) rfl (by omega) (by omega) dX3_makeStep_31 ?_
    refine x_callV F [] ([]) [0, 1, 2, 3, 4, 5, 6, 7, 8, 9, 10, 11, 12, 13, 14, 15] [] (c_X3_tryPlan l D cA as_ L A1 JS mk ad M mm (JS 3 (t % L)) em hmm (fun i hi => by rw [h5]; exact hmv i hi)) mwX3_tryPlan wmX3_134 rfl (q0 := 0) rfl rfl rfl (Nat.le_of_ble_eq_true rfl) ⟨by decide, by decide⟩ ⟨by show _ ≤ 0; omega, by show _ ≤ 0; omega⟩ rfl rfl (by decide) (by decide) (by decide) dX3_makeStep_32 (fun r7 u8 hp9 => ?_)
    obtain ⟨rfl, rfl⟩ := hp9
    obtain ⟨sg, esg⟩ : ∃ z : SJM, z = (tryS mm (JS 3 (t % L)) (A1, JS, M)) := ⟨_, rfl⟩
    refine x_ws ((wS cA as_ (ad 100) L (sg.1) (sg.2.1) mk) ++ (wF cA ad (sg.2.2))) (by subst esg; rfl) ?_
    have h8s : sg.1 8 0 = nI t := by rw [esg, tryS_o _ _ _ 8 (by decide) (by decide)]; exact h8
    refine x_aload_n F 1 dX3_makeStep_35 rfl ?_
    refine x_get F inUX3 0 3 rfl rfl (by decide) wfX3_58 rfl dX3_makeStep_36 ?_
    refine x_iload_n F 0 dX3_makeStep_39 rfl ?_
    refine x_aload_n F 1 dX3_makeStep_40 rfl ?_
    refine x_get F inUX3 0 6 rfl rfl (by decide) wfX3_38 rfl dX3_makeStep_41 ?_
    refine x_last F 3 (k := t % L) ((wS cA as_ (ad 100) L (sg.1) (st3 (sg.2.1) 3 (t % L) ((sg.2.1) 6 0)) mk) ++ (wF cA ad (sg.2.2))) rfl (by omega) (by omega) rfl dX3_makeStep_44 ?_
    refine x_ws ((wS cA as_ (ad 100) L ((lateP (t % L) sg).1) ((lateP (t % L) sg).2.1) mk) ++ (wF cA ad ((lateP (t % L) sg).2.2))) rfl ?_
    obtain ⟨sl, esl⟩ : ∃ z, z = lateP (t % L) sg := ⟨_, rfl⟩
    rw [← esl]
    refine x_aload_n F 1 dX3_makeStep_45 rfl ?_
    refine x_callV F [] ([]) [0, 1, 2, 3, 4, 5, 6, 7, 8, 9, 10, 11, 12, 13, 14, 15] [] (c_X3_keepIfBest l D cA as_ L (sl.1) (sl.2.1) mk ad (sl.2.2)) mwX3_keepIfBest wmX3_89 rfl (q0 := 0) rfl rfl rfl (Nat.le_of_ble_eq_true rfl) ⟨by decide, by decide⟩ ⟨by show _ ≤ 0; omega, by show _ ≤ 0; omega⟩ rfl rfl (by decide) (by decide) (by decide) dX3_makeStep_46 (fun r10 u11 hp12 => ?_)
    obtain ⟨rfl, rfl⟩ := hp12
    obtain ⟨sg13, esg13⟩ : ∃ z, z = keepB ((sl.1), (sl.2.1), (sl.2.2)) := ⟨_, rfl⟩
    rw [← esg13]
    refine x_aload_n F 1 dX3_makeStep_49 rfl ?_
    refine x_dup F dX3_makeStep_50 rfl ?_
    refine x_get F inUX3 0 8 rfl rfl (by decide) wfX3_45 rfl dX3_makeStep_51 ?_
    have h8k : sg13.1 8 0 = nI t := by rw [esg13, show keepB (sl.1, sl.2.1, sl.2.2) = keepB sl from rfl, keepB_o _ 8 (by decide) (by decide), esl]; exact h8s
    refine x_top (nI t) (h8k) ?_
    refine x_iconst F (nI 1) dX3_makeStep_54 (by decide +kernel) ?_
    refine x_iadd F (nI (t + 1)) dX3_makeStep_55 (nI_add _ _) ?_
    refine x_put F inUX3 tyX3_ok nmX3 0 8 ((wS cA as_ (ad 100) L (st2 (sg13.1) 8 0 (nI (t + 1))) (sg13.2.1) mk) ++ (wF cA ad (sg13.2.2))) rfl rfl (by decide) wfX3_45 rfl rfl rfl rfl (Nat.le_of_ble_eq_true rfl) rfl dX3_makeStep_56 ?_
    exact x_vret F ((st2 (sg13.1) 8 0 (nI (t + 1))), (sg13.2.1), (sg13.2.2)) (⟨rfl, by unfold stepS; rw [if_pos em, show turnX (MS, JS, M) = (A1, JS, M) from by rw [eA1]; rfl, show tryS mm (((MS, JS, M) : SJM).2.1 3 (t % L)) (A1, JS, M) = sg from esg.symm, ← esl, show keepB sl = sg13 from esg13.symm]; rfl⟩) (rfl) (by omega) (by omega) dX3_makeStep_59

set_option maxHeartbeats 4000000 in
set_option maxRecDepth 100000 in
theorem c_X3_makeSteps (l : Launch) (D : va_G) (cA : Nat → ClassId) (as_ : Nat → Nat) (L : Nat) (MS : Nat → Nat → Int32) (JS : Nat → Nat → Int64) (mk : Nat → Option Nat) (ad : Nat → Nat) (M : Nat → Nat → Int32) (n t : Nat) (ht : MS 8 0 = nI t) (ht2 : t + n < 2 ^ 30) (hL : 0 < L) (hL2 : L < 2 ^ 31) : Cg l D cA yX3_makeSteps cX3_makeSteps 5 (some .int) 5 0 0 ([.ref (as_ 100), .int (nI n)] : List Value) ((wS cA as_ (ad 100) L MS JS mk) ++ (wF cA ad M)) (fun (r : Option Value) (u : SJM) => r = some (.int ((stepsS (mvc M 16) L t n (va_up MS 5 (mvr M (MS 5) 16), JS, M)).1 10 0 - MS 10 0)) ∧ u = stepsS (mvc M 16) L t n (va_up MS 5 (mvr M (MS 5) 16), JS, M)) (fun u : SJM => (wS cA as_ (ad 100) L (u.1) (u.2.1) mk) ++ (wF cA ad (u.2.2))) := by
  refine x_met (by decide +kernel) rfl (Nat.le_of_ble_eq_true rfl) ?_
  intro xp xe xs xm xbl xme xco F hnm
  refine x_lv [(0, .ref (as_ 100)), (1, .int (nI n))] [0, 1] rfl ?_
  have hmv16 := mvc_le M 16
  refine x_aload_n F 0 dX3_makeSteps_0 rfl ?_
  refine x_get F inUX3 0 10 rfl rfl (by decide) wfX3_49 rfl dX3_makeSteps_1 ?_
  refine x_istore_n F [(2, .int (MS 10 0)), (0, .ref (as_ 100)), (1, .int (nI n))] dX3_makeSteps_4 (by decide) rfl ?_
  refine x_aload_n F 1 dX3_makeSteps_5 rfl ?_
  refine x_get F inUX3 0 0 rfl rfl (by decide) wfX3_12 rfl dX3_makeSteps_6 ?_
  refine x_aload_n F 1 dX3_makeSteps_9 rfl ?_
  refine x_get F inUX3 0 5 rfl rfl (by decide) wfX3_35 rfl dX3_makeSteps_10 ?_
  refine x_callV F [] ([0, 1, 2, 3, 4].filterMap (fun i => ((wS cA as_ (ad 100) L MS JS mk) ++ (wF cA ad M))[i]?)) [6, 7, 8, 9, 10, 11, 12, 13, 14, 15, 5] [0, 1, 2, 3, 4] (c_X0_listMovable l D cA ad M (as_ 5) (MS 5)) mwX0_listMovable wmX3_121 rfl (q0 := 0) rfl rfl rfl (Nat.le_of_ble_eq_true rfl) ⟨by decide, by decide⟩ ⟨by show _ ≤ 0; omega, by show _ ≤ 0; omega⟩ rfl rfl (by decide) (by decide) (by decide) dX3_makeSteps_13 (fun r1 u2 hp3 => ?_)
  obtain ⟨rfl, rfl⟩ := hp3
  refine x_sub ((wS cA as_ (ad 100) L (va_up MS 5 (mvr M (MS 5) 16)) JS mk) ++ (wF cA ad M)) [0, 1, 2, 3, 4, 15, 5, 6, 7, 8, 9, 10, 11, 12, 13, 14] rfl (by decide) ?_
  refine x_istore_n F [(3, .int (nI (mvc M 16))), (2, .int (MS 10 0)), (0, .ref (as_ 100)), (1, .int (nI n))] dX3_makeSteps_16 (by decide) rfl ?_
  refine x_iconst F (nI 0) dX3_makeSteps_17 (by decide +kernel) ?_
  refine x_istore F [(4, .int (nI 0)), (3, .int (nI (mvc M 16))), (2, .int (MS 10 0)), (0, .ref (as_ 100)), (1, .int (nI n))] dX3_makeSteps_18 (by decide) rfl ?_
  refine x_lv [(0, .ref (as_ 100)), (1, .int (nI n)), (2, .int (MS 10 0)), (3, .int (nI (mvc M 16))), (4, .int (nI 0))] [3, 4, 2, 1, 0] rfl ?_
  have loop20 : ∀ (nn20 : Nat) (i : Nat) (sg : SJM), (i ≤ n) → (sg = stepsS (mvc M 16) L t i (va_up MS 5 (mvr M (MS 5) 16), JS, M)) → (n - i < nn20) → Wx xp l xe (rmL 5 0 0) xs xm ([.ref (as_ 100), .int (nI n)] : List Value).toArray xbl xme xco 0 0 (xQ xbl D ((wS cA as_ (ad 100) L MS JS mk) ++ (wF cA ad M)) xs ([.ref (as_ 100), .int (nI n)] : List Value).toArray 0 0 (fun (r : Option Value) (u : SJM) => r = some (.int ((stepsS (mvc M 16) L t n (va_up MS 5 (mvr M (MS 5) 16), JS, M)).1 10 0 - MS 10 0)) ∧ u = stepsS (mvc M 16) L t n (va_up MS 5 (mvr M (MS 5) 16), JS, M)) (fun u : SJM => (wS cA as_ (ad 100) L (u.1) (u.2.1) mk) ++ (wF cA ad (u.2.2)))) 5 D (va_A ((wS cA as_ (ad 100) L MS JS mk) ++ (wF cA ad M)) xs.heap.size) 20 [(0, .ref (as_ 100)), (1, .int (nI n)), (2, .int (MS 10 0)), (3, .int (nI (mvc M 16))), (4, .int (nI i))] [] ((wS cA as_ (ad 100) L sg.1 sg.2.1 mk) ++ (wF cA ad sg.2.2)) := by
    intro nn20
    induction nn20 with
    | zero =>
      intro i sg hi esg hm20
      exact absurd hm20 (Nat.not_lt_zero _)
    | succ nn20 ih20 =>
      intro i sg hi esg hm20
      refine x_iload F 4 dX3_makeSteps_20 rfl ?_
      refine x_iload_n F 1 dX3_makeSteps_22 rfl ?_
      refine x_icmp_ge F 37 dX3_makeSteps_23 (by decide) (fun h23 => ?_) (fun h23 => ?_)
      · have h23n : n ≤ i := (nI_leI (by omega) (by omega)).mp h23
        obtain rfl : n = i := by omega
        refine x_aload_n F 0 dX3_makeSteps_37 rfl ?_
        refine x_get F inUX3 0 10 rfl rfl (by decide) wfX3_49 rfl dX3_makeSteps_38 ?_
        refine x_iload_n F 2 dX3_makeSteps_41 rfl ?_
        refine x_isub F ((sg.1 10 0) - (MS 10 0)) dX3_makeSteps_42 rfl ?_
        exact x_iret F sg (⟨by rw [← esg], esg⟩) (rfl) (by omega) (by omega) dX3_makeSteps_43
      · have h23n : ¬ n ≤ i := fun z => h23 ((nI_leI (by omega) (by omega)).mpr z)
        refine x_aload_n F 0 dX3_makeSteps_26 rfl ?_
        refine x_iload_n F 3 dX3_makeSteps_27 rfl ?_
        refine x_callV F [] ([]) [0, 1, 2, 3, 4, 5, 6, 7, 8, 9, 10, 11, 12, 13, 14, 15] [] (c_X3_makeStep l D cA as_ L sg.1 sg.2.1 mk ad sg.2.2 (mvc M 16) (t + i) (mvc_le M 16) (fun x hx => by rw [esg, stepsS_5]; exact mvr_job M (MS 5) 16 x hx) (by rw [esg]; exact stepsS_8 _ L t i _ ht) (by omega) hL hL2) mwX3_makeStep wmX3_125 rfl (q0 := 0) rfl rfl rfl (Nat.le_of_ble_eq_true rfl) ⟨by decide, by decide⟩ ⟨by show _ ≤ 0; omega, by show _ ≤ 0; omega⟩ rfl rfl (by decide) (by decide) (by decide) dX3_makeSteps_28 (fun r4 u5 hp6 => ?_)
        obtain ⟨rfl, rfl⟩ := hp6
        refine x_iinc F (nI (i + 1)) 4 [(4, .int (nI (i + 1))), (0, .ref (as_ 100)), (1, .int (nI n)), (2, .int (MS 10 0)), (3, .int (nI (mvc M 16)))] dX3_makeSteps_31 rfl ((nI_add i 1)) (by decide) rfl ?_
        refine x_goto F 20 dX3_makeSteps_34 (by decide) ?_
        refine x_lv [(0, .ref (as_ 100)), (1, .int (nI n)), (2, .int (MS 10 0)), (3, .int (nI (mvc M 16))), (4, .int (nI (i + 1)))] [1, 2, 3, 4, 0] rfl ?_
        exact ih20 (i + 1) (stepS (mvc M 16) L (t + i) (sg.1, sg.2.1, sg.2.2)) (by omega) (by rw [esg]; rfl) (by omega)
  exact loop20 _ 0 (va_up MS 5 (mvr M (MS 5) 16), JS, M) (by omega) rfl (Nat.lt_succ_self _)

set_option maxHeartbeats 4000000 in
set_option maxRecDepth 100000 in
theorem c_X3_keepIn (l : Launch) (D : va_G) (cA : Nat → ClassId) (as_ : Nat → Nat) (L : Nat) (MS : Nat → Nat → Int32) (JS : Nat → Nat → Int64) (mk : Nat → Option Nat) (ad : Nat → Nat) (M : Nat → Nat → Int32) (am : Nat → Nat) (MM : Nat → Nat → Int32) (JM : Nat → Nat → Int64) (hL : L < 2 ^ 31) : Cg l D cA yX3_keepIn cX3_keepIn 2 none 1 0 0 ([.ref (as_ 100), .ref (am 100)] : List Value) ((wS cA as_ (ad 100) L MS JS mk) ++ (wF cA ad M) ++ (wM cA am L MM JM)) (fun (r : Option Value) (u : (Nat → Nat → Int32) × (Nat → Nat → Int64)) => r = none ∧ u.1 = va_up (va_up (st2 MM 0 0 (M 0 0)) 1 (va_cpy (MS 1) (MM 1) 0 0 16)) 2 (va_cpy (MS 2) (MM 2) 0 0 16) ∧ u.2 = va_up JM 3 (va_cpy (JS 3) (JM 3) 0 0 L)) (fun u : (Nat → Nat → Int32) × (Nat → Nat → Int64) => (wS cA as_ (ad 100) L MS JS mk) ++ (wF cA ad M) ++ (wM cA am L u.1 u.2)) := by
  refine x_met (by decide +kernel) rfl (Nat.le_of_ble_eq_true rfl) ?_
  intro xp xe xs xm xbl xme xco F hnm
  refine x_lv [(0, .ref (as_ 100)), (1, .ref (am 100))] [0, 1] rfl ?_
  refine x_aload_n F 1 dX3_keepIn_0 rfl ?_
  refine x_aload_n F 0 dX3_keepIn_1 rfl ?_
  refine x_get F inUX3 0 0 rfl rfl (by decide) wfX3_12 rfl dX3_keepIn_2 ?_
  refine x_get F inUX0 6 0 rfl rfl (by decide) wfX3_68 rfl dX3_keepIn_5 ?_
  refine x_put F inUX2 tyX2_ok nmX2 16 0 ((wS cA as_ (ad 100) L MS JS mk) ++ (wF cA ad M) ++ (wM cA am L (st2 MM 0 0 (M 0 0)) JM)) rfl rfl (by decide) wfX3_142 rfl rfl rfl rfl (Nat.le_of_ble_eq_true rfl) rfl dX3_keepIn_8 ?_
  refine x_aload_n F 0 dX3_keepIn_11 rfl ?_
  refine x_get F inUX3 0 1 rfl rfl (by decide) wfX3_22 rfl dX3_keepIn_12 ?_
  refine x_iconst F (nI 0) dX3_keepIn_15 (by decide +kernel) ?_
  refine x_aload_n F 1 dX3_keepIn_16 rfl ?_
  refine x_get F inUX2 16 1 rfl rfl (by decide) wfX3_143 rfl dX3_keepIn_17 ?_
  refine x_iconst F (nI 0) dX3_keepIn_20 (by decide +kernel) ?_
  refine x_bipush F (nI 16) dX3_keepIn_21 (by decide +kernel) ?_
  refine x_copyI F 1 17 (k := 16) ((wS cA as_ (ad 100) L MS JS mk) ++ (wF cA ad M) ++ (wM cA am L (va_up (st2 MM 0 0 (M 0 0)) 1 (va_cpy (MS 1) ((st2 MM 0 0 (M 0 0)) 1) 0 0 16)) JM)) rfl rfl (by omega) (by omega) (by omega) rfl wmX3_115 (by decide) (by first | decide +kernel | exact Nat.le_of_ble_eq_true rfl) dX3_keepIn_23 ?_
  refine x_aload_n F 0 dX3_keepIn_26 rfl ?_
  refine x_get F inUX3 0 2 rfl rfl (by decide) wfX3_26 rfl dX3_keepIn_27 ?_
  refine x_iconst F (nI 0) dX3_keepIn_30 (by decide +kernel) ?_
  refine x_aload_n F 1 dX3_keepIn_31 rfl ?_
  refine x_get F inUX2 16 2 rfl rfl (by decide) wfX3_144 rfl dX3_keepIn_32 ?_
  refine x_iconst F (nI 0) dX3_keepIn_35 (by decide +kernel) ?_
  refine x_bipush F (nI 16) dX3_keepIn_36 (by decide +kernel) ?_
  refine x_copyI F 2 18 (k := 16) ((wS cA as_ (ad 100) L MS JS mk) ++ (wF cA ad M) ++ (wM cA am L (va_up (va_up (st2 MM 0 0 (M 0 0)) 1 (va_cpy (MS 1) ((st2 MM 0 0 (M 0 0)) 1) 0 0 16)) 2 (va_cpy (MS 2) ((va_up (st2 MM 0 0 (M 0 0)) 1 (va_cpy (MS 1) ((st2 MM 0 0 (M 0 0)) 1) 0 0 16)) 2) 0 0 16)) JM)) rfl rfl (by omega) (by omega) (by omega) rfl wmX3_115 (by decide) (by first | decide +kernel | exact Nat.le_of_ble_eq_true rfl) dX3_keepIn_38 ?_
  refine x_aload_n F 0 dX3_keepIn_41 rfl ?_
  refine x_get F inUX3 0 3 rfl rfl (by decide) wfX3_58 rfl dX3_keepIn_42 ?_
  refine x_iconst F (nI 0) dX3_keepIn_45 (by decide +kernel) ?_
  refine x_aload_n F 1 dX3_keepIn_46 rfl ?_
  refine x_get F inUX2 16 3 rfl rfl (by decide) wfX3_145 rfl dX3_keepIn_47 ?_
  refine x_iconst F (nI 0) dX3_keepIn_50 (by decide +kernel) ?_
  refine x_aload_n F 0 dX3_keepIn_51 rfl ?_
  refine x_get F inUX3 0 3 rfl rfl (by decide) wfX3_58 rfl dX3_keepIn_52 ?_
  refine x_alen F 3 1 rfl rfl (nI L) rfl dX3_keepIn_55 ?_
  refine x_copyJ F 3 19 (k := L) ((wS cA as_ (ad 100) L MS JS mk) ++ (wF cA ad M) ++ (wM cA am L (va_up (va_up (st2 MM 0 0 (M 0 0)) 1 (va_cpy (MS 1) ((st2 MM 0 0 (M 0 0)) 1) 0 0 16)) 2 (va_cpy (MS 2) ((va_up (st2 MM 0 0 (M 0 0)) 1 (va_cpy (MS 1) ((st2 MM 0 0 (M 0 0)) 1) 0 0 16)) 2) 0 0 16)) (va_up JM 3 (va_cpy (JS 3) (JM 3) 0 0 L)))) rfl rfl (by omega) (by omega) (by omega) rfl wmX3_115 (by decide) (by first | decide +kernel | exact Nat.le_of_ble_eq_true rfl) dX3_keepIn_56 ?_
  exact x_vret F ((va_up (va_up (st2 MM 0 0 (M 0 0)) 1 (va_cpy (MS 1) ((st2 MM 0 0 (M 0 0)) 1) 0 0 16)) 2 (va_cpy (MS 2) ((va_up (st2 MM 0 0 (M 0 0)) 1 (va_cpy (MS 1) ((st2 MM 0 0 (M 0 0)) 1) 0 0 16)) 2) 0 0 16)), (va_up JM 3 (va_cpy (JS 3) (JM 3) 0 0 L))) (⟨rfl, rfl, rfl⟩) (rfl) (by omega) (by omega) dX3_keepIn_59

/-- going back to a mark that had taken n, from k -/
def backS (G : Nat → Nat → Int32) (k n L : Nat) (MM : Nat → Nat → Int32) (JM : Nat → Nat → Int64) (σ : SJM) : SJM := anew (va_up (va_up σ.1 1 (va_cpy (MM 1) (σ.1 1) 0 0 16)) 2 (va_cpy (MM 2) (σ.1 2) 0 0 16), va_up σ.2.1 3 (va_cpy (JM 3) (σ.2.1 3) 0 0 L), becF G k n σ.2.2)
theorem itF_00 (G : Nat → Nat → Int32) (a c : Nat) (M : Nat → Nat → Int32) (h : M 0 0 = nI a) : itF G a c M 0 0 = nI (a + c) := by
  cases c with
  | zero => exact h
  | succ c => unfold itF; simp [st2, va_up, upd]; rfl
theorem becF_00 (G : Nat → Nat → Int32) (k n : Nat) (M : Nat → Nat → Int32) (h : M 0 0 = nI k) : becF G k n M 0 0 = nI n := by
  unfold becF; split
  · rw [itF_00 G 0 n _ rfl, Nat.zero_add]
  · rw [itF_00 G k _ _ h, show k + (n - k) = n by omega]
theorem scT_00 (M : Nat → Nat → Int32) (p : Nat → Int32) (n : Nat) : scT M p n 0 0 = M 0 0 := by rw [scT_o M p 0 (by decide) (by decide)]
theorem anew_00 (σ : SJM) : (anew σ).2.2 0 0 = σ.2.2 0 0 := by
  show scT (scT _ _ 16) _ 16 0 0 = _
  rw [scT_00, scT_00]
set_option maxHeartbeats 4000000 in
set_option maxRecDepth 100000 in
theorem c_X3_goBackTo (l : Launch) (D : va_G) (cA : Nat → ClassId) (as_ : Nat → Nat) (L : Nat) (MS : Nat → Nat → Int32) (JS : Nat → Nat → Int64) (mk : Nat → Option Nat) (ad : Nat → Nat) (M : Nat → Nat → Int32) (al : Nat → Nat) (ML : Nat → Nat → Int32) (am : Nat → Nat) (MM : Nat → Nat → Int32) (JM : Nat → Nat → Int64) (n k cnt : Nat) (hc : ML 5 0 = nI cnt) (hcn : cnt ≤ 120) (hk : M 0 0 = nI k) (hkc : k ≤ cnt) (hm : MM 0 0 = nI n) (hnc : n ≤ cnt) (hwf : ∀ i, i < cnt → wfE ML i) (hL : L < 2 ^ 31) : Cg l D cA yX3_goBackTo cX3_goBackTo 4 none 5 0 0 ([.ref (as_ 100), .ref (am 100), .ref (al 100)] : List Value) ((wS cA as_ (ad 100) L MS JS mk) ++ (wF cA ad M) ++ (wL cA al ML) ++ (wM cA am L MM JM)) (fun (r : Option Value) (u : SJM) => r = none ∧ u = if k ≤ n then backS ML k n L MM JM (MS, JS, M) else catchS ML n k L (backS ML k n L MM JM (MS, JS, M))) (fun u : SJM => (wS cA as_ (ad 100) L (u.1) (u.2.1) mk) ++ (wF cA ad (u.2.2)) ++ (wL cA al ML) ++ (wM cA am L MM JM)) := by
  refine x_met (by decide +kernel) rfl (Nat.le_of_ble_eq_true rfl) ?_
  intro xp xe xs xm xbl xme xco F hnm
  refine x_lv [(0, .ref (as_ 100)), (1, .ref (am 100)), (2, .ref (al 100))] [0, 1, 2] rfl ?_
  refine x_aload_n F 0 dX3_goBackTo_0 rfl ?_
  refine x_get F inUX3 0 0 rfl rfl (by decide) wfX3_12 rfl dX3_goBackTo_1 ?_
  refine x_get F inUX0 6 0 rfl rfl (by decide) wfX3_68 rfl dX3_goBackTo_4 ?_
  refine x_top (nI k) (hk) ?_
  refine x_istore_n F [(3, .int (nI k)), (0, .ref (as_ 100)), (1, .ref (am 100)), (2, .ref (al 100))] dX3_goBackTo_7 (by decide) rfl ?_
  refine x_aload_n F 1 dX3_goBackTo_8 rfl ?_
  refine x_get F inUX3 0 0 rfl rfl (by decide) wfX3_12 rfl dX3_goBackTo_9 ?_
  refine x_aload_n F 3 dX3_goBackTo_12 rfl ?_
  refine x_aload_n F 2 dX3_goBackTo_13 rfl ?_
  refine x_get F inUX2 22 0 rfl rfl (by decide) wfX3_142 rfl dX3_goBackTo_14 ?_
  refine x_top (nI n) (hm) ?_
  refine x_callV F [] ((wS cA as_ (ad 100) L MS JS mk) ++ (wM cA am L MM JM)) [6, 7, 8, 9, 10, 11, 12, 13, 14, 15, 16, 17, 18, 19, 20, 21] [0, 1, 2, 3, 4, 5, 22, 23, 24, 25] (c_X0_become l D cA ad M al ML n k cnt hc hcn hnc hk hkc hwf) mwX0_become wmX3_79 rfl (q0 := 0) rfl rfl rfl (Nat.le_of_ble_eq_true rfl) ⟨by decide, by decide⟩ ⟨by show _ ≤ 0; omega, by show _ ≤ 0; omega⟩ rfl rfl (by decide) (by decide) (by decide) dX3_goBackTo_17 (fun r1 u2 hp3 => ?_)
  obtain ⟨rfl, rfl⟩ := hp3
  refine x_sub ((wS cA as_ (ad 100) L MS JS mk) ++ (wF cA ad (becF ML k n M)) ++ (wL cA al ML) ++ (wM cA am L MM JM)) [0, 1, 2, 3, 4, 5, 10, 11, 12, 13, 14, 15, 16, 17, 18, 19, 20, 21, 22, 23, 24, 25, 6, 7, 8, 9] rfl (by decide) ?_
  refine x_aload_n F 2 dX3_goBackTo_20 rfl ?_
  refine x_get F inUX2 22 1 rfl rfl (by decide) wfX3_143 rfl dX3_goBackTo_21 ?_
  refine x_iconst F (nI 0) dX3_goBackTo_24 (by decide +kernel) ?_
  refine x_aload_n F 1 dX3_goBackTo_25 rfl ?_
  refine x_get F inUX3 0 1 rfl rfl (by decide) wfX3_22 rfl dX3_goBackTo_26 ?_
  refine x_iconst F (nI 0) dX3_goBackTo_29 (by decide +kernel) ?_
  refine x_bipush F (nI 16) dX3_goBackTo_30 (by decide +kernel) ?_
  refine x_copyI F 23 1 (k := 16) ((wS cA as_ (ad 100) L (va_up MS 1 (va_cpy (MM 1) (MS 1) 0 0 16)) JS mk) ++ (wF cA ad (becF ML k n M)) ++ (wL cA al ML) ++ (wM cA am L MM JM)) rfl rfl (by omega) (by omega) (by omega) rfl wmX3_115 (by decide) (by first | decide +kernel | exact Nat.le_of_ble_eq_true rfl) dX3_goBackTo_32 ?_
  refine x_aload_n F 2 dX3_goBackTo_35 rfl ?_
  refine x_get F inUX2 22 2 rfl rfl (by decide) wfX3_144 rfl dX3_goBackTo_36 ?_
  refine x_iconst F (nI 0) dX3_goBackTo_39 (by decide +kernel) ?_
  refine x_aload_n F 1 dX3_goBackTo_40 rfl ?_
  refine x_get F inUX3 0 2 rfl rfl (by decide) wfX3_26 rfl dX3_goBackTo_41 ?_
  refine x_iconst F (nI 0) dX3_goBackTo_44 (by decide +kernel) ?_
  refine x_bipush F (nI 16) dX3_goBackTo_45 (by decide +kernel) ?_
  refine x_copyI F 24 2 (k := 16) ((wS cA as_ (ad 100) L (va_up (va_up MS 1 (va_cpy (MM 1) (MS 1) 0 0 16)) 2 (va_cpy (MM 2) ((va_up MS 1 (va_cpy (MM 1) (MS 1) 0 0 16)) 2) 0 0 16)) JS mk) ++ (wF cA ad (becF ML k n M)) ++ (wL cA al ML) ++ (wM cA am L MM JM)) rfl rfl (by omega) (by omega) (by omega) rfl wmX3_115 (by decide) (by first | decide +kernel | exact Nat.le_of_ble_eq_true rfl) dX3_goBackTo_47 ?_
  refine x_aload_n F 2 dX3_goBackTo_50 rfl ?_
  refine x_get F inUX2 22 3 rfl rfl (by decide) wfX3_145 rfl dX3_goBackTo_51 ?_
  refine x_iconst F (nI 0) dX3_goBackTo_54 (by decide +kernel) ?_
  refine x_aload_n F 1 dX3_goBackTo_55 rfl ?_
  refine x_get F inUX3 0 3 rfl rfl (by decide) wfX3_58 rfl dX3_goBackTo_56 ?_
  refine x_iconst F (nI 0) dX3_goBackTo_59 (by decide +kernel) ?_
  refine x_aload_n F 1 dX3_goBackTo_60 rfl ?_
  refine x_get F inUX3 0 3 rfl rfl (by decide) wfX3_58 rfl dX3_goBackTo_61 ?_
  refine x_alen F 3 1 rfl rfl (nI L) rfl dX3_goBackTo_64 ?_
  refine x_copyJ F 25 3 (k := L) ((wS cA as_ (ad 100) L (va_up (va_up MS 1 (va_cpy (MM 1) (MS 1) 0 0 16)) 2 (va_cpy (MM 2) ((va_up MS 1 (va_cpy (MM 1) (MS 1) 0 0 16)) 2) 0 0 16)) (va_up JS 3 (va_cpy (JM 3) (JS 3) 0 0 L)) mk) ++ (wF cA ad (becF ML k n M)) ++ (wL cA al ML) ++ (wM cA am L MM JM)) rfl rfl (by omega) (by omega) (by omega) rfl wmX3_115 (by decide) (by first | decide +kernel | exact Nat.le_of_ble_eq_true rfl) dX3_goBackTo_65 ?_
  refine x_aload_n F 1 dX3_goBackTo_68 rfl ?_
  refine x_callV F [] ((wL cA al ML) ++ (wM cA am L MM JM)) [0, 1, 2, 3, 4, 5, 6, 7, 8, 9, 10, 11, 12, 13, 14, 15] [16, 17, 18, 19, 20, 21, 22, 23, 24, 25] (c_X3_scoreAnew l D cA as_ L (va_up (va_up MS 1 (va_cpy (MM 1) (MS 1) 0 0 16)) 2 (va_cpy (MM 2) ((va_up MS 1 (va_cpy (MM 1) (MS 1) 0 0 16)) 2) 0 0 16)) (va_up JS 3 (va_cpy (JM 3) (JS 3) 0 0 L)) mk ad (becF ML k n M)) mwX3_scoreAnew wmX3_86 rfl (q0 := 0) rfl rfl rfl (Nat.le_of_ble_eq_true rfl) ⟨by decide, by decide⟩ ⟨by show _ ≤ 0; omega, by show _ ≤ 0; omega⟩ rfl rfl (by decide) (by decide) (by decide) dX3_goBackTo_69 (fun r4 u5 hp6 => ?_)
  obtain ⟨rfl, rfl⟩ := hp6
  refine x_sub ((wS cA as_ (ad 100) L ((anew ((va_up (va_up MS 1 (va_cpy (MM 1) (MS 1) 0 0 16)) 2 (va_cpy (MM 2) ((va_up MS 1 (va_cpy (MM 1) (MS 1) 0 0 16)) 2) 0 0 16)), (va_up JS 3 (va_cpy (JM 3) (JS 3) 0 0 L)), (becF ML k n M))).1) ((anew ((va_up (va_up MS 1 (va_cpy (MM 1) (MS 1) 0 0 16)) 2 (va_cpy (MM 2) ((va_up MS 1 (va_cpy (MM 1) (MS 1) 0 0 16)) 2) 0 0 16)), (va_up JS 3 (va_cpy (JM 3) (JS 3) 0 0 L)), (becF ML k n M))).2.1) mk) ++ (wF cA ad ((anew ((va_up (va_up MS 1 (va_cpy (MM 1) (MS 1) 0 0 16)) 2 (va_cpy (MM 2) ((va_up MS 1 (va_cpy (MM 1) (MS 1) 0 0 16)) 2) 0 0 16)), (va_up JS 3 (va_cpy (JM 3) (JS 3) 0 0 L)), (becF ML k n M))).2.2)) ++ (wL cA al ML) ++ (wM cA am L MM JM)) [10, 11, 12, 13, 14, 15, 16, 17, 18, 19, 20, 21, 22, 23, 24, 25, 0, 1, 2, 3, 4, 5, 6, 7, 8, 9] rfl (by decide) ?_
  obtain ⟨sg7, esg7⟩ : ∃ z, z = anew ((va_up (va_up MS 1 (va_cpy (MM 1) (MS 1) 0 0 16)) 2 (va_cpy (MM 2) ((va_up MS 1 (va_cpy (MM 1) (MS 1) 0 0 16)) 2) 0 0 16)), (va_up JS 3 (va_cpy (JM 3) (JS 3) 0 0 L)), (becF ML k n M)) := ⟨_, rfl⟩
  rw [← esg7]
  have ebk : sg7 = backS ML k n L MM JM (MS, JS, M) := esg7
  have h00 : sg7.2.2 0 0 = nI n := by rw [esg7, anew_00]; exact becF_00 ML k n M hk
  refine x_aload_n F 1 dX3_goBackTo_72 rfl ?_
  refine x_aload_n F 3 dX3_goBackTo_73 rfl ?_
  refine x_iload_n F 0 dX3_goBackTo_74 rfl ?_
  refine x_callV F [] (wM cA am L MM JM) [0, 1, 2, 3, 4, 5, 6, 7, 8, 9, 10, 11, 12, 13, 14, 15, 16, 17, 18, 19, 20, 21] [22, 23, 24, 25] (c_X3_catchUp l D cA as_ L sg7.1 sg7.2.1 mk ad sg7.2.2 al ML k n cnt hc hcn hkc h00 hnc hwf hL) mwX3_catchUp wmX3_146 rfl (q0 := 0) rfl rfl rfl (Nat.le_of_ble_eq_true rfl) ⟨by decide, by decide⟩ ⟨by show _ ≤ 0; omega, by show _ ≤ 0; omega⟩ rfl rfl (by decide) (by decide) (by decide) dX3_goBackTo_75 (fun r8 u9 hp10 => ?_)
  obtain ⟨rfl, eu⟩ := hp10
  refine x_sub ((wS cA as_ (ad 100) L (u9.1) (u9.2.1) mk) ++ (wF cA ad (u9.2.2)) ++ (wL cA al ML) ++ (wM cA am L MM JM)) [4, 5, 6, 7, 8, 9, 10, 11, 12, 13, 14, 15, 16, 17, 18, 19, 20, 21, 22, 23, 24, 25, 0, 1, 2, 3] rfl (by decide) ?_
  refine x_pop F dX3_goBackTo_78 rfl ?_
  exact x_vret F u9 (⟨rfl, by rw [eu, show (sg7.1, sg7.2.1, sg7.2.2) = sg7 from rfl, ebk]⟩) (rfl) (by omega) (by omega) dX3_goBackTo_79

set_option maxHeartbeats 4000000 in
set_option maxRecDepth 100000 in
theorem c_X2_init (l : Launch) (D : va_G) (cA : Nat → ClassId) (h0 L : Nat) (hL : L ≤ 8) : Cg l D cA yX2_init cX2_init 2 none 1 3 40 ([.ref h0, .int (nI L)] : List Value) ([(h0, .inr (2, [.int 0, .null, .null, .null]))]) (fun (r : Option Value) (u : Nat → Nat) => r = none ∧ u 100 = h0) (fun u : Nat → Nat => wM cA u L (fun _ _ => 0) (fun _ _ => 0)) := by
  refine x_met (by decide +kernel) rfl (Nat.le_of_ble_eq_true rfl) ?_
  intro xp xe xs xm xbl xme xco F hnm
  refine x_lv [(0, .ref h0), (1, .int (nI L))] [0, 1] rfl ?_
  refine x_aload_n F 0 dX2_init_0 rfl ?_
  refine x_objInit F wmX2_3 wiJO_init wcJO_init (by decide) (Nat.le_of_ble_eq_true rfl) dX2_init_1 ?_
  refine x_aload_n F 0 dX2_init_4 rfl ?_
  refine x_iconst F (nI 0) dX2_init_5 (by decide +kernel) ?_
  refine x_put F inUX2 tyX2_ok nmX2 0 0 ([(h0, .inr (2, [.int (nI 0), .null, .null, .null]))]) rfl rfl (by decide) wfX2_9 rfl rfl rfl rfl (Nat.le_of_ble_eq_true rfl) rfl dX2_init_6 ?_
  refine x_aload_n F 0 dX2_init_9 rfl ?_
  refine x_bipush F (nI 16) dX2_init_10 (by decide +kernel) ?_
  refine x_newI F (k := 16) wa_int (by omega) (by show _ ≤ 3; omega) (by show _ ≤ 40; omega) dX2_init_12 (fun q1 => ?_)
  refine x_putF F hnm inUX2 tyX2_ok nmX2 0 1 ([(h0, .inr (2, [.int (nI 0), .ref q1, .null, .null]))] ++ [(q1, .inl (cA 0, 16, .inl (fun _ => 0)))]) rfl rfl (by decide) wfX2_15 rfl rfl rfl rfl rfl (Nat.le_of_ble_eq_true rfl) rfl dX2_init_14 ?_
  refine x_aload_n F 0 dX2_init_17 rfl ?_
  refine x_bipush F (nI 16) dX2_init_18 (by decide +kernel) ?_
  refine x_newI F (k := 16) wa_int (by omega) (by show _ ≤ 3; omega) (by show _ ≤ 40; omega) dX2_init_20 (fun q2 => ?_)
  refine x_putF F hnm inUX2 tyX2_ok nmX2 0 2 ([(h0, .inr (2, [.int (nI 0), .ref q1, .ref q2, .null]))] ++ [(q1, .inl (cA 0, 16, .inl (fun _ => 0)))] ++ [(q2, .inl (cA 0, 16, .inl (fun _ => 0)))]) rfl rfl (by decide) wfX2_19 rfl rfl rfl rfl rfl (Nat.le_of_ble_eq_true rfl) rfl dX2_init_22 ?_
  refine x_aload_n F 0 dX2_init_25 rfl ?_
  refine x_iload_n F 1 dX2_init_26 rfl ?_
  refine x_newJ F (k := L) wa_long (by omega) (by show _ ≤ 3; omega) (by show _ ≤ 40; omega) dX2_init_27 (fun q3 => ?_)
  refine x_putF F hnm inUX2 tyX2_ok nmX2 0 3 ([(h0, .inr (2, [.int (nI 0), .ref q1, .ref q2, .ref q3]))] ++ [(q1, .inl (cA 0, 16, .inl (fun _ => 0)))] ++ [(q2, .inl (cA 0, 16, .inl (fun _ => 0)))] ++ [(q3, .inl (cA 1, L, .inr (.inl (fun _ => 0))))]) rfl rfl (by decide) wfX2_22 rfl rfl rfl rfl rfl (Nat.le_of_ble_eq_true rfl) rfl dX2_init_29 ?_
  exact x_vret F (adM h0 q1 q2 q3) (⟨rfl, rfl⟩) (rfl) (by omega) (by omega) dX2_init_32

set_option maxHeartbeats 4000000 in
set_option maxRecDepth 100000 in
theorem c_X4_emptyPlan (l : Launch) (D : va_G) (cA : Nat → ClassId)   : Cg l D cA yX4_emptyPlan cX4_emptyPlan 1 (some (.array .int)) 1 1 16 ([] : List Value) ([]) (fun (r : Option Value) (u : Nat) => ∃ q, r = some (.ref q) ∧ u = q) (fun u : Nat => [(u, .inl (cA 0, 16, .inl (fl (fun _ => 0) 16 (-1))))]) := by
  refine x_met (by decide +kernel) rfl (Nat.le_of_ble_eq_true rfl) ?_
  intro xp xe xs xm xbl xme xco F hnm
  refine x_lv [] [] rfl ?_
  refine x_bipush F (nI 16) dX4_emptyPlan_0 (by decide +kernel) ?_
  refine x_newI F (k := 16) wa_int (by omega) (by show _ ≤ 1; omega) (by show _ ≤ 16; omega) dX4_emptyPlan_2 (fun q1 => ?_)
  refine x_astore_n F [(0, .ref q1)] dX4_emptyPlan_4 (by decide) rfl ?_
  refine x_aload_n F 0 dX4_emptyPlan_5 rfl ?_
  refine x_iconst F (-1) dX4_emptyPlan_6 (by decide +kernel) ?_
  refine x_callS F [] ([] : va_W) [0] [] (c_J7_fill_53178 l D cA q1 16 (fun _ => 0) (-1) (by decide)) mwJ7_fill_53178 wmX4_187 rfl rfl (Nat.le_of_ble_eq_true rfl) ⟨by decide, by decide⟩ ⟨by show _ ≤ 1; omega, by show _ ≤ 16; omega⟩ rfl rfl (by decide) (by decide) (by decide) dX4_emptyPlan_7 (fun r2 u3 hp4 => ?_)
  subst hp4
  refine x_sub ([(q1, .inl (cA 0, 16, .inl (fl (fun _ => 0) 16 (-1))))]) [0] rfl (by decide) ?_
  refine x_aload_n F 0 dX4_emptyPlan_10 rfl ?_
  exact x_aret F (Or.inr ⟨_, rfl⟩) (Or.inr ⟨_, rfl⟩) q1 (⟨_, rfl, rfl⟩) (rfl) (by omega) (by omega) dX4_emptyPlan_11

