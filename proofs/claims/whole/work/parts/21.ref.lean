/-! the reference: facts, log, plans -/
set_option maxHeartbeats 4000000 in
set_option maxRecDepth 100000 in
theorem c_X5_forget (l : Launch) (D : va_G) (cA : Nat → ClassId) (ar : Nat → Nat) (M : Nat → Nat → Int32) (f : Nat) (hf : f < 5) : Cg l D cA yX5_forget cX5_forget 3 none 0 0 0 ([.ref (ar 100), .int (nI f)] : List Value) (wR cA ar M) (fun (r : Option Value) (u : Nat → Nat → Int32) => r = none ∧ u = fgS M f 6) (fun u : Nat → Nat → Int32 => wR cA ar u) := by
  refine x_met (by decide +kernel) rfl (Nat.le_of_ble_eq_true rfl) ?_
  intro xp xe xs xm xbl xme xco F hnm
  refine x_lv [(0, .ref (ar 100)), (1, .int (nI f))] [0, 1] rfl ?_
  refine x_iconst F (nI 0) dX5_forget_0 (by decide +kernel) ?_
  refine x_istore_n F [(2, .int (nI 0)), (0, .ref (ar 100)), (1, .int (nI f))] dX5_forget_1 (by decide) rfl ?_
  refine x_ws (wR cA ar (fgI M f 0)) (by rw [fgI_0]) ?_
  refine x_lv [(0, .ref (ar 100)), (1, .int (nI f)), (2, .int (nI 0))] [1, 2, 0] rfl ?_
  have loop2 : ∀ (nn2 : Nat) (i : Nat), (i ≤ 16) → (16 - i < nn2) → Wx xp l xe (rmL 0 0 0) xs xm ([.ref (ar 100), .int (nI f)] : List Value).toArray xbl xme xco 0 0 (xQ xbl D (wR cA ar M) xs ([.ref (ar 100), .int (nI f)] : List Value).toArray 0 0 (fun (r : Option Value) (u : Nat → Nat → Int32) => r = none ∧ u = fgS M f 6) (fun u : Nat → Nat → Int32 => wR cA ar u)) 3 D (va_A (wR cA ar M) xs.heap.size) 2 [(0, .ref (ar 100)), (1, .int (nI f)), (2, .int (nI i))] [] (wR cA ar (fgI M f i)) := by
    intro nn2
    induction nn2 with
    | zero =>
      intro i hi hm2
      exact absurd hm2 (Nat.not_lt_zero _)
    | succ nn2 ih2 =>
      intro i hi hm2
      refine x_iload_n F 2 dX5_forget_2 rfl ?_
      refine x_bipush F (nI 16) dX5_forget_3 (by decide +kernel) ?_
      refine x_icmp_ge F 51 dX5_forget_5 (by decide) (fun h5 => ?_) (fun h5 => ?_)
      · have h5n : 16 ≤ i := (nI_leI (by decide) (by omega)).mp h5
        obtain rfl : 16 = i := by omega
        refine x_iconst F (nI 0) dX5_forget_51 (by decide +kernel) ?_
        refine x_istore_n F [(2, .int (nI 0)), (0, .ref (ar 100)), (1, .int (nI f))] dX5_forget_52 (by decide) rfl ?_
        rw [← fgS_0]
        refine x_lv [(0, .ref (ar 100)), (1, .int (nI f)), (2, .int (nI 0))] [1, 2, 0] rfl ?_
        have loop53 : ∀ (nn53 : Nat) (x : Nat), (x ≤ 6) → (6 - x < nn53) → Wx xp l xe (rmL 0 0 0) xs xm ([.ref (ar 100), .int (nI f)] : List Value).toArray xbl xme xco 0 0 (xQ xbl D (wR cA ar M) xs ([.ref (ar 100), .int (nI f)] : List Value).toArray 0 0 (fun (r : Option Value) (u : Nat → Nat → Int32) => r = none ∧ u = fgS M f 6) (fun u : Nat → Nat → Int32 => wR cA ar u)) 3 D (va_A (wR cA ar M) xs.heap.size) 53 [(0, .ref (ar 100)), (1, .int (nI f)), (2, .int (nI x))] [] (wR cA ar (fgS M f x)) := by
          intro nn53
          induction nn53 with
          | zero =>
            intro x hx hm53
            exact absurd hm53 (Nat.not_lt_zero _)
          | succ nn53 ih53 =>
            intro x hx hm53
            refine x_iload_n F 2 dX5_forget_53 rfl ?_
            refine x_bipush F (nI 6) dX5_forget_54 (by decide +kernel) ?_
            refine x_icmp_ge F 78 dX5_forget_56 (by decide) (fun h56 => ?_) (fun h56 => ?_)
            · have h56n : 6 ≤ x := (nI_leI (by decide) (by omega)).mp h56
              obtain rfl : 6 = x := by omega
              exact x_vret F (fgS M f 6) (⟨rfl, rfl⟩) (rfl) (by omega) (by omega) dX5_forget_78
            · have h56n : ¬ 6 ≤ x := fun z => h56 ((nI_leI (by decide) (by omega)).mpr z)
              refine x_aload_n F 0 dX5_forget_59 rfl ?_
              refine x_get F inUX5 0 12 rfl rfl (by decide) wfX5_44 rfl dX5_forget_60 ?_
              refine x_bipush F (nI 6) dX5_forget_63 (by decide +kernel) ?_
              refine x_iload_n F 1 dX5_forget_65 rfl ?_
              refine x_imul F (nI (6 * f)) dX5_forget_66 (pk_mul _ _) ?_
              refine x_iload_n F 2 dX5_forget_67 rfl ?_
              refine x_iadd F (nI ((6 * f) + x)) dX5_forget_68 (nI_add _ _) ?_
              refine x_bipush F (nI 100) dX5_forget_69 (by decide +kernel) ?_
              refine x_iast F 12 (k := (6 * f) + x) (wR cA ar (st2 (fgS M f x) 12 ((6 * f) + x) (nI 100))) rfl (by omega) (by decide) rfl dX5_forget_71 ?_
              refine x_iinc F (nI (x + 1)) 2 [(2, .int (nI (x + 1))), (0, .ref (ar 100)), (1, .int (nI f))] dX5_forget_72 rfl ((nI_add x 1)) (by decide) rfl ?_
              refine x_goto F 53 dX5_forget_75 (by decide) ?_
              rw [fgS_s]
              refine x_lv [(0, .ref (ar 100)), (1, .int (nI f)), (2, .int (nI (x + 1)))] [1, 2, 0] rfl ?_
              exact ih53 (x + 1) (by omega) (by omega)
        exact loop53 _ 0 (Nat.zero_le _) (Nat.lt_succ_self _)
      · have h5n : ¬ 16 ≤ i := fun z => h5 ((nI_leI (by decide) (by omega)).mpr z)
        refine x_aload_n F 0 dX5_forget_8 rfl ?_
        refine x_get F inUX5 0 6 rfl rfl (by decide) wfX5_25 rfl dX5_forget_9 ?_
        refine x_bipush F (nI 16) dX5_forget_12 (by decide +kernel) ?_
        refine x_iload_n F 1 dX5_forget_14 rfl ?_
        refine x_imul F (nI (16 * f)) dX5_forget_15 (pk_mul _ _) ?_
        refine x_iload_n F 2 dX5_forget_16 rfl ?_
        refine x_iadd F (nI ((16 * f) + i)) dX5_forget_17 (nI_add _ _) ?_
        refine x_iconst F (nI 0) dX5_forget_18 (by decide +kernel) ?_
        refine x_zast F 6 (k := (16 * f) + i) (wR cA ar (st2 (fgI M f i) 6 ((16 * f) + i) (nI 0))) rfl (by omega) (by decide) (by decide +kernel) rfl dX5_forget_19 ?_
        refine x_aload_n F 0 dX5_forget_20 rfl ?_
        refine x_get F inUX5 0 10 rfl rfl (by decide) wfX5_38 rfl dX5_forget_21 ?_
        refine x_bipush F (nI 16) dX5_forget_24 (by decide +kernel) ?_
        refine x_iload_n F 1 dX5_forget_26 rfl ?_
        refine x_imul F (nI (16 * f)) dX5_forget_27 (pk_mul _ _) ?_
        refine x_iload_n F 2 dX5_forget_28 rfl ?_
        refine x_iadd F (nI ((16 * f) + i)) dX5_forget_29 (nI_add _ _) ?_
        refine x_bipush F (-2) dX5_forget_30 (by decide +kernel) ?_
        refine x_iast F 10 (k := (16 * f) + i) (wR cA ar (st2 (st2 (fgI M f i) 6 ((16 * f) + i) (nI 0)) 10 ((16 * f) + i) (-2))) rfl (by omega) (by decide) rfl dX5_forget_32 ?_
        refine x_aload_n F 0 dX5_forget_33 rfl ?_
        refine x_get F inUX5 0 11 rfl rfl (by decide) wfX5_41 rfl dX5_forget_34 ?_
        refine x_bipush F (nI 16) dX5_forget_37 (by decide +kernel) ?_
        refine x_iload_n F 1 dX5_forget_39 rfl ?_
        refine x_imul F (nI (16 * f)) dX5_forget_40 (pk_mul _ _) ?_
        refine x_iload_n F 2 dX5_forget_41 rfl ?_
        refine x_iadd F (nI ((16 * f) + i)) dX5_forget_42 (nI_add _ _) ?_
        refine x_iconst F (nI 0) dX5_forget_43 (by decide +kernel) ?_
        refine x_iast F 11 (k := (16 * f) + i) (wR cA ar (st2 (st2 (st2 (fgI M f i) 6 ((16 * f) + i) (nI 0)) 10 ((16 * f) + i) (-2)) 11 ((16 * f) + i) (nI 0))) rfl (by omega) (by decide) rfl dX5_forget_44 ?_
        refine x_iinc F (nI (i + 1)) 2 [(2, .int (nI (i + 1))), (0, .ref (ar 100)), (1, .int (nI f))] dX5_forget_45 rfl ((nI_add i 1)) (by decide) rfl ?_
        refine x_goto F 2 dX5_forget_48 (by decide) ?_
        rw [fgI_s]
        refine x_lv [(0, .ref (ar 100)), (1, .int (nI f)), (2, .int (nI (i + 1)))] [1, 2, 0] rfl ?_
        exact ih2 (i + 1) (by omega) (by omega)
  exact loop2 _ 0 (Nat.zero_le _) (Nat.lt_succ_self _)

set_option maxHeartbeats 4000000 in
set_option maxRecDepth 100000 in
theorem c_X5_tell (l : Launch) (D : va_G) (cA : Nat → ClassId) (ar : Nat → Nat) (M : Nat → Nat → Int32) (j i : Nat) (hj : j < 80) (hi : i < 120) : Cg l D cA yX5_tell cX5_tell 3 none 0 0 0 ([.ref (ar 100), .int (nI j), .int (nI i)] : List Value) (wR cA ar M) (fun (r : Option Value) (u : Nat → Nat → Int32) => r = none ∧ u = tellR M j i) (fun u : Nat → Nat → Int32 => wR cA ar u) := by
  refine x_met (by decide +kernel) rfl (Nat.le_of_ble_eq_true rfl) ?_
  intro xp xe xs xm xbl xme xco F hnm
  refine x_lv [(0, .ref (ar 100)), (1, .int (nI j)), (2, .int (nI i))] [0, 1, 2] rfl ?_
  refine x_aload_n F 0 dX5_tell_0 rfl ?_
  refine x_get F inUX5 0 7 rfl rfl (by decide) wfX5_29 rfl dX5_tell_1 ?_
  refine x_iload_n F 1 dX5_tell_4 rfl ?_
  refine x_aload_n F 0 dX5_tell_5 rfl ?_
  refine x_get F inUX5 0 3 rfl rfl (by decide) wfX5_16 rfl dX5_tell_6 ?_
  refine x_iload_n F 2 dX5_tell_9 rfl ?_
  refine x_iald F 3 (k := i) rfl (by omega) (by decide) dX5_tell_10 ?_
  refine x_iast F 7 (k := j) (wR cA ar (st2 M 7 j (M 3 i))) rfl (by omega) (by decide) rfl dX5_tell_11 ?_
  refine x_aload_n F 0 dX5_tell_12 rfl ?_
  refine x_get F inUX5 0 8 rfl rfl (by decide) wfX5_32 rfl dX5_tell_13 ?_
  refine x_iload_n F 1 dX5_tell_16 rfl ?_
  refine x_aload_n F 0 dX5_tell_17 rfl ?_
  refine x_get F inUX5 0 4 rfl rfl (by decide) wfX5_19 rfl dX5_tell_18 ?_
  refine x_iload_n F 2 dX5_tell_21 rfl ?_
  refine x_iald F 4 (k := i) rfl (by omega) (by decide) dX5_tell_22 ?_
  refine x_iast F 8 (k := j) (wR cA ar (st2 (st2 M 7 j (M 3 i)) 8 j ((st2 M 7 j (M 3 i)) 4 i))) rfl (by omega) (by decide) rfl dX5_tell_23 ?_
  refine x_aload_n F 0 dX5_tell_24 rfl ?_
  refine x_get F inUX5 0 9 rfl rfl (by decide) wfX5_35 rfl dX5_tell_25 ?_
  refine x_iload_n F 1 dX5_tell_28 rfl ?_
  refine x_aload_n F 0 dX5_tell_29 rfl ?_
  refine x_get F inUX5 0 5 rfl rfl (by decide) wfX5_22 rfl dX5_tell_30 ?_
  refine x_iload_n F 2 dX5_tell_33 rfl ?_
  refine x_iald F 5 (k := i) rfl (by omega) (by decide) dX5_tell_34 ?_
  refine x_iast F 9 (k := j) (wR cA ar (st2 (st2 (st2 M 7 j (M 3 i)) 8 j ((st2 M 7 j (M 3 i)) 4 i)) 9 j ((st2 (st2 M 7 j (M 3 i)) 8 j ((st2 M 7 j (M 3 i)) 4 i)) 5 i))) rfl (by omega) (by decide) rfl dX5_tell_35 ?_
  exact x_vret F (tellR M j i) (⟨rfl, rfl⟩) (rfl) (by omega) (by omega) dX5_tell_36

set_option maxHeartbeats 4000000 in
set_option maxRecDepth 100000 in
theorem c_X5_apply (l : Launch) (D : va_G) (cA : Nat → ClassId) (ar : Nat → Nat) (M : Nat → Nat → Int32) (f i : Nat) (hf : f < 5) (hi : i < 120) (hw : wfE (logR M) i) : Cg l D cA yX5_apply cX5_apply 5 none 1 0 0 ([.ref (ar 100), .int (nI f), .int (nI i)] : List Value) (wR cA ar M) (fun (r : Option Value) (u : Nat → Nat → Int32) => r = none ∧ u = apR M f i) (fun u : Nat → Nat → Int32 => wR cA ar u) := by
  refine x_met (by decide +kernel) rfl (Nat.le_of_ble_eq_true rfl) ?_
  intro xp xe xs xm xbl xme xco F hnm
  refine x_lv [(0, .ref (ar 100)), (1, .int (nI f)), (2, .int (nI i))] [0, 1, 2] rfl ?_
  obtain ⟨k, w, hk, ew, hk8, h3, hn3, h45, -, -⟩ := hw
  have hk : M 1 i = nI k := hk
  have ew : M 2 i = nI w := ew
  have hw16 : w < 16 := by
    by_cases h : k = 3
    · have := (h3 h).1; omega
    · exact hn3 h
  have ewc : (M 2 i).toNatClampNeg = w := by rw [ew]; exact nI_clamp (by omega)
  refine x_bipush F (nI 16) dX5_apply_0 (by decide +kernel) ?_
  refine x_iload_n F 1 dX5_apply_2 rfl ?_
  refine x_imul F (nI (16 * f)) dX5_apply_3 (pk_mul _ _) ?_
  refine x_aload_n F 0 dX5_apply_4 rfl ?_
  refine x_get F inUX5 0 2 rfl rfl (by decide) wfX5_13 rfl dX5_apply_5 ?_
  refine x_iload_n F 2 dX5_apply_8 rfl ?_
  refine x_iald F 2 (k := i) rfl (by omega) (by decide) dX5_apply_9 ?_
  refine x_top (nI w) (ew) ?_
  refine x_iadd F (nI ((16 * f) + w)) dX5_apply_10 (nI_add _ _) ?_
  refine x_istore_n F [(3, .int (nI ((16 * f) + w))), (0, .ref (ar 100)), (1, .int (nI f)), (2, .int (nI i))] dX5_apply_11 (by decide) rfl ?_
  refine x_aload_n F 1 dX5_apply_12 rfl ?_
  refine x_get F inUX5 0 1 rfl rfl (by decide) wfX5_7 rfl dX5_apply_13 ?_
  refine x_iload_n F 3 dX5_apply_16 rfl ?_
  refine x_iald F 1 (k := i) rfl (by omega) (by decide) dX5_apply_17 ?_
  rcases (show k = 0 ∨ k = 1 ∨ k = 2 ∨ k = 3 ∨ k = 4 ∨ k = 5 ∨ k = 6 ∨ k = 7 by omega) with rfl | rfl | rfl | rfl | rfl | rfl | rfl | rfl
  · have es : apR M f i = tellR (st2 M 6 (16 * f + w) (nI 1)) (16 * f + w) i := by unfold apR; rw [ewc, hk]; rfl
    refine x_top (nI 0) (hk) ?_
    refine x_tableIn F 60 dX5_apply_18 (by decide +kernel) (by decide +kernel) (off := 42) (by decide +kernel) (by decide) ?_
    refine x_aload_n F 1 dX5_apply_60 rfl ?_
    refine x_get F inUX5 0 6 rfl rfl (by decide) wfX5_25 rfl dX5_apply_61 ?_
    refine x_iload_n F 0 dX5_apply_64 rfl ?_
    refine x_iconst F (nI 1) dX5_apply_65 (by decide +kernel) ?_
    refine x_zast F 6 (k := (16 * f) + w) (wR cA ar (st2 M 6 ((16 * f) + w) (nI 1))) rfl (by omega) (by decide) (by decide +kernel) rfl dX5_apply_66 ?_
    refine x_aload_n F 1 dX5_apply_67 rfl ?_
    refine x_iload_n F 0 dX5_apply_68 rfl ?_
    refine x_iload_n F 3 dX5_apply_69 rfl ?_
    refine x_callV F [] ([]) [0, 1, 2, 3, 4, 5, 6, 7, 8, 9, 10, 11, 12, 13, 14, 15, 16, 17, 18, 19, 20, 21, 22, 23, 24, 25] [] (c_X5_tell l D cA ar (st2 M 6 ((16 * f) + w) (nI 1)) ((16 * f) + w) i (by omega) hi) mwX5_tell wmX5_90 rfl (q0 := 0) rfl rfl rfl (Nat.le_of_ble_eq_true rfl) ⟨by decide, by decide⟩ ⟨by show _ ≤ 0; omega, by show _ ≤ 0; omega⟩ rfl rfl (by decide) (by decide) (by decide) dX5_apply_70 (fun r1 u2 hp3 => ?_)
    obtain ⟨rfl, rfl⟩ := hp3
    refine x_goto F 297 dX5_apply_73 (by decide) ?_
    exact x_vret F (tellR (st2 M 6 ((16 * f) + w) (nI 1)) ((16 * f) + w) i) (⟨rfl, es.symm⟩) (rfl) (by omega) (by omega) dX5_apply_297
  · have es : apR M f i = lvR M f w 16 := by unfold apR; rw [ewc, hk]; rfl
    refine x_top (nI 1) (hk) ?_
    refine x_tableIn F 76 dX5_apply_18 (by decide +kernel) (by decide +kernel) (off := 58) (by decide +kernel) (by decide) ?_
    refine x_aload_n F 1 dX5_apply_76 rfl ?_
    refine x_get F inUX5 0 6 rfl rfl (by decide) wfX5_25 rfl dX5_apply_77 ?_
    refine x_iload_n F 0 dX5_apply_80 rfl ?_
    refine x_iconst F (nI 0) dX5_apply_81 (by decide +kernel) ?_
    refine x_zast F 6 (k := (16 * f) + w) (wR cA ar (st2 M 6 ((16 * f) + w) (nI 0))) rfl (by omega) (by decide) (by decide +kernel) rfl dX5_apply_82 ?_
    refine x_aload_n F 1 dX5_apply_83 rfl ?_
    refine x_get F inUX5 0 10 rfl rfl (by decide) wfX5_38 rfl dX5_apply_84 ?_
    refine x_iload_n F 0 dX5_apply_87 rfl ?_
    refine x_bipush F (-2) dX5_apply_88 (by decide +kernel) ?_
    refine x_iast F 10 (k := (16 * f) + w) (wR cA ar (st2 (st2 M 6 ((16 * f) + w) (nI 0)) 10 ((16 * f) + w) (-2))) rfl (by omega) (by decide) rfl dX5_apply_90 ?_
    refine x_aload_n F 1 dX5_apply_91 rfl ?_
    refine x_get F inUX5 0 11 rfl rfl (by decide) wfX5_41 rfl dX5_apply_92 ?_
    refine x_iload_n F 0 dX5_apply_95 rfl ?_
    refine x_iconst F (nI 0) dX5_apply_96 (by decide +kernel) ?_
    refine x_iast F 11 (k := (16 * f) + w) (wR cA ar (st2 (st2 (st2 M 6 ((16 * f) + w) (nI 0)) 10 ((16 * f) + w) (-2)) 11 ((16 * f) + w) (nI 0))) rfl (by omega) (by decide) rfl dX5_apply_97 ?_
    refine x_iconst F (nI 0) dX5_apply_98 (by decide +kernel) ?_
    refine x_istore F [(4, .int (nI 0)), (3, .int (nI ((16 * f) + w))), (0, .ref (ar 100)), (1, .int (nI f)), (2, .int (nI i))] dX5_apply_99 (by decide) rfl ?_
    refine x_ws (wR cA ar (lvR M f w 0)) (by rw [lvR_0]; rfl) ?_
    refine x_lv [(0, .ref (ar 100)), (1, .int (nI f)), (2, .int (nI i)), (3, .int (nI ((16 * f) + w))), (4, .int (nI 0))] [2, 3, 4, 1, 0] rfl ?_
    have loop101 : ∀ (nn101 : Nat) (x : Nat), (x ≤ 16) → (16 - x < nn101) → Wx xp l xe (rmL 1 0 0) xs xm ([.ref (ar 100), .int (nI f), .int (nI i)] : List Value).toArray xbl xme xco 0 0 (xQ xbl D (wR cA ar M) xs ([.ref (ar 100), .int (nI f), .int (nI i)] : List Value).toArray 0 0 (fun (r : Option Value) (u : Nat → Nat → Int32) => r = none ∧ u = apR M f i) (fun u : Nat → Nat → Int32 => wR cA ar u)) 5 D (va_A (wR cA ar M) xs.heap.size) 101 [(0, .ref (ar 100)), (1, .int (nI f)), (2, .int (nI i)), (3, .int (nI ((16 * f) + w))), (4, .int (nI x))] [] (wR cA ar (lvR M f w x)) := by
      intro nn101
      induction nn101 with
      | zero =>
        intro x hx hm101
        exact absurd hm101 (Nat.not_lt_zero _)
      | succ nn101 ih101 =>
        intro x hx hm101
        refine x_iload F 4 dX5_apply_101 rfl ?_
        refine x_bipush F (nI 16) dX5_apply_103 (by decide +kernel) ?_
        refine x_icmp_ge F 139 dX5_apply_105 (by decide) (fun h105 => ?_) (fun h105 => ?_)
        · have h105n : 16 ≤ x := (nI_leI (by decide) (by omega)).mp h105
          obtain rfl : 16 = x := by omega
          refine x_goto F 297 dX5_apply_139 (by decide) ?_
          exact x_vret F (lvR M f w 16) (⟨rfl, es.symm⟩) (rfl) (by omega) (by omega) dX5_apply_297
        · have h105n : ¬ 16 ≤ x := fun z => h105 ((nI_leI (by decide) (by omega)).mpr z)
          refine x_aload_n F 0 dX5_apply_108 rfl ?_
          refine x_get F inUX5 0 11 rfl rfl (by decide) wfX5_41 rfl dX5_apply_109 ?_
          refine x_bipush F (nI 16) dX5_apply_112 (by decide +kernel) ?_
          refine x_iload_n F 1 dX5_apply_114 rfl ?_
          refine x_imul F (nI (16 * f)) dX5_apply_115 (pk_mul _ _) ?_
          refine x_iload F 4 dX5_apply_116 rfl ?_
          refine x_iadd F (nI ((16 * f) + x)) dX5_apply_118 (nI_add _ _) ?_
          refine x_dup2 F dX5_apply_119 rfl rfl ?_
          refine x_iald F 11 (k := (16 * f) + x) rfl (by omega) (by decide) dX5_apply_120 ?_
          refine x_iconst F (nI 1) dX5_apply_121 (by decide +kernel) ?_
          refine x_aload_n F 0 dX5_apply_122 rfl ?_
          refine x_get F inUX5 0 2 rfl rfl (by decide) wfX5_13 rfl dX5_apply_123 ?_
          refine x_iload_n F 2 dX5_apply_126 rfl ?_
          refine x_iald F 2 (k := i) rfl (by omega) (by decide) dX5_apply_127 ?_
          refine x_top (nI w) (by rw [lvR_o _ _ _ _ _ (by decide)]; exact ew) ?_
          refine x_ishl F ((nI 1) <<< ((nI w) &&& 31)) dX5_apply_128 rfl ?_
          refine x_iconst F (-1) dX5_apply_129 (by decide +kernel) ?_
          refine x_ixor F (((nI 1) <<< ((nI w) &&& 31)) ^^^ (-1)) dX5_apply_130 rfl ?_
          refine x_iand F (((lvR M f w x) 11 ((16 * f) + x)) &&& (((nI 1) <<< ((nI w) &&& 31)) ^^^ (-1))) dX5_apply_131 rfl ?_
          refine x_iast F 11 (k := (16 * f) + x) (wR cA ar (st2 (lvR M f w x) 11 ((16 * f) + x) (((lvR M f w x) 11 ((16 * f) + x)) &&& (((nI 1) <<< ((nI w) &&& 31)) ^^^ (-1))))) rfl (by omega) (by decide) rfl dX5_apply_132 ?_
          refine x_iinc F (nI (x + 1)) 4 [(4, .int (nI (x + 1))), (0, .ref (ar 100)), (1, .int (nI f)), (2, .int (nI i)), (3, .int (nI ((16 * f) + w)))] dX5_apply_133 rfl ((nI_add x 1)) (by decide) rfl ?_
          refine x_goto F 101 dX5_apply_136 (by decide) ?_
          refine x_ws (wR cA ar (lvR M f w (x + 1))) (by rw [← lvR_s]; rfl) ?_
          refine x_lv [(0, .ref (ar 100)), (1, .int (nI f)), (2, .int (nI i)), (3, .int (nI ((16 * f) + w))), (4, .int (nI (x + 1)))] [1, 2, 3, 4, 0] rfl ?_
          exact ih101 (x + 1) (by omega) (by omega)
    exact loop101 _ 0 (Nat.zero_le _) (Nat.lt_succ_self _)
  · have es : apR M f i = tellR M (16 * f + w) i := by unfold apR; rw [ewc, hk]; rfl
    refine x_top (nI 2) (hk) ?_
    refine x_tableIn F 142 dX5_apply_18 (by decide +kernel) (by decide +kernel) (off := 124) (by decide +kernel) (by decide) ?_
    refine x_aload_n F 1 dX5_apply_142 rfl ?_
    refine x_iload_n F 0 dX5_apply_143 rfl ?_
    refine x_iload_n F 3 dX5_apply_144 rfl ?_
    refine x_callV F [] ([]) [0, 1, 2, 3, 4, 5, 6, 7, 8, 9, 10, 11, 12, 13, 14, 15, 16, 17, 18, 19, 20, 21, 22, 23, 24, 25] [] (c_X5_tell l D cA ar M ((16 * f) + w) i (by omega) hi) mwX5_tell wmX5_90 rfl (q0 := 0) rfl rfl rfl (Nat.le_of_ble_eq_true rfl) ⟨by decide, by decide⟩ ⟨by show _ ≤ 0; omega, by show _ ≤ 0; omega⟩ rfl rfl (by decide) (by decide) (by decide) dX5_apply_145 (fun r4 u5 hp6 => ?_)
    obtain ⟨rfl, rfl⟩ := hp6
    refine x_goto F 297 dX5_apply_148 (by decide) ?_
    exact x_vret F (tellR M ((16 * f) + w) i) (⟨rfl, es.symm⟩) (rfl) (by omega) (by omega) dX5_apply_297
  · have hw6 := (h3 rfl).1
    have es : apR M f i = st2 M 12 (6 * f + w) (M 3 i) := by unfold apR; rw [ewc, hk]; rfl
    refine x_top (nI 3) (hk) ?_
    refine x_tableIn F 151 dX5_apply_18 (by decide +kernel) (by decide +kernel) (off := 133) (by decide +kernel) (by decide) ?_
    refine x_aload_n F 1 dX5_apply_151 rfl ?_
    refine x_get F inUX5 0 12 rfl rfl (by decide) wfX5_44 rfl dX5_apply_152 ?_
    refine x_bipush F (nI 6) dX5_apply_155 (by decide +kernel) ?_
    refine x_iload_n F 2 dX5_apply_157 rfl ?_
    refine x_imul F (nI (6 * f)) dX5_apply_158 (pk_mul _ _) ?_
    refine x_aload_n F 1 dX5_apply_159 rfl ?_
    refine x_get F inUX5 0 2 rfl rfl (by decide) wfX5_13 rfl dX5_apply_160 ?_
    refine x_iload_n F 3 dX5_apply_163 rfl ?_
    refine x_iald F 2 (k := i) rfl (by omega) (by decide) dX5_apply_164 ?_
    refine x_top (nI w) (ew) ?_
    refine x_iadd F (nI ((6 * f) + w)) dX5_apply_165 (nI_add _ _) ?_
    refine x_aload_n F 1 dX5_apply_166 rfl ?_
    refine x_get F inUX5 0 3 rfl rfl (by decide) wfX5_16 rfl dX5_apply_167 ?_
    refine x_iload_n F 3 dX5_apply_170 rfl ?_
    refine x_iald F 3 (k := i) rfl (by omega) (by decide) dX5_apply_171 ?_
    refine x_iast F 12 (k := (6 * f) + w) (wR cA ar (st2 M 12 ((6 * f) + w) (M 3 i))) rfl (by omega) (by decide) rfl dX5_apply_172 ?_
    refine x_goto F 297 dX5_apply_173 (by decide) ?_
    exact x_vret F (st2 M 12 ((6 * f) + w) (M 3 i)) (⟨rfl, es.symm⟩) (rfl) (by omega) (by omega) dX5_apply_297
  · obtain ⟨b, hb16, eb⟩ := h45 (by omega)
    have eb : M 3 i = nI b := eb
    have es : apR M f i = prtR M f w b := by unfold apR; rw [ewc, hk]; rw [eb, nI_clamp (by omega)]; rfl
    refine x_top (nI 4) (hk) ?_
    refine x_tableIn F 176 dX5_apply_18 (by decide +kernel) (by decide +kernel) (off := 158) (by decide +kernel) (by decide) ?_
    refine x_aload_n F 1 dX5_apply_176 rfl ?_
    refine x_get F inUX5 0 11 rfl rfl (by decide) wfX5_41 rfl dX5_apply_177 ?_
    refine x_iload_n F 0 dX5_apply_180 rfl ?_
    refine x_dup2 F dX5_apply_181 rfl rfl ?_
    refine x_iald F 11 (k := (16 * f) + w) rfl (by omega) (by decide) dX5_apply_182 ?_
    refine x_iconst F (nI 1) dX5_apply_183 (by decide +kernel) ?_
    refine x_aload_n F 1 dX5_apply_184 rfl ?_
    refine x_get F inUX5 0 3 rfl rfl (by decide) wfX5_16 rfl dX5_apply_185 ?_
    refine x_iload_n F 3 dX5_apply_188 rfl ?_
    refine x_iald F 3 (k := i) rfl (by omega) (by decide) dX5_apply_189 ?_
    refine x_top (nI b) (eb) ?_
    refine x_ishl F ((nI 1) <<< ((nI b) &&& 31)) dX5_apply_190 rfl ?_
    refine x_ior F ((M 11 ((16 * f) + w)) ||| ((nI 1) <<< ((nI b) &&& 31))) dX5_apply_191 rfl ?_
    refine x_iast F 11 (k := (16 * f) + w) (wR cA ar (st2 M 11 ((16 * f) + w) ((M 11 ((16 * f) + w)) ||| ((nI 1) <<< ((nI b) &&& 31))))) rfl (by omega) (by decide) rfl dX5_apply_192 ?_
    refine x_aload_n F 1 dX5_apply_193 rfl ?_
    refine x_get F inUX5 0 11 rfl rfl (by decide) wfX5_41 rfl dX5_apply_194 ?_
    refine x_bipush F (nI 16) dX5_apply_197 (by decide +kernel) ?_
    refine x_iload_n F 2 dX5_apply_199 rfl ?_
    refine x_imul F (nI (16 * f)) dX5_apply_200 (pk_mul _ _) ?_
    refine x_aload_n F 1 dX5_apply_201 rfl ?_
    refine x_get F inUX5 0 3 rfl rfl (by decide) wfX5_16 rfl dX5_apply_202 ?_
    refine x_iload_n F 3 dX5_apply_205 rfl ?_
    refine x_iald F 3 (k := i) rfl (by omega) (by decide) dX5_apply_206 ?_
    refine x_top (nI b) (eb) ?_
    refine x_iadd F (nI ((16 * f) + b)) dX5_apply_207 (nI_add _ _) ?_
    refine x_dup2 F dX5_apply_208 rfl rfl ?_
    refine x_iald F 11 (k := (16 * f) + b) rfl (by omega) (by decide) dX5_apply_209 ?_
    refine x_iconst F (nI 1) dX5_apply_210 (by decide +kernel) ?_
    refine x_aload_n F 1 dX5_apply_211 rfl ?_
    refine x_get F inUX5 0 2 rfl rfl (by decide) wfX5_13 rfl dX5_apply_212 ?_
    refine x_iload_n F 3 dX5_apply_215 rfl ?_
    refine x_iald F 2 (k := i) rfl (by omega) (by decide) dX5_apply_216 ?_
    refine x_top (nI w) (ew) ?_
    refine x_ishl F ((nI 1) <<< ((nI w) &&& 31)) dX5_apply_217 rfl ?_
    refine x_ior F (((st2 M 11 ((16 * f) + w) ((M 11 ((16 * f) + w)) ||| ((nI 1) <<< ((nI b) &&& 31)))) 11 ((16 * f) + b)) ||| ((nI 1) <<< ((nI w) &&& 31))) dX5_apply_218 rfl ?_
    refine x_iast F 11 (k := (16 * f) + b) (wR cA ar (st2 (st2 M 11 ((16 * f) + w) ((M 11 ((16 * f) + w)) ||| ((nI 1) <<< ((nI b) &&& 31)))) 11 ((16 * f) + b) (((st2 M 11 ((16 * f) + w) ((M 11 ((16 * f) + w)) ||| ((nI 1) <<< ((nI b) &&& 31)))) 11 ((16 * f) + b)) ||| ((nI 1) <<< ((nI w) &&& 31))))) rfl (by omega) (by decide) rfl dX5_apply_219 ?_
    refine x_goto F 297 dX5_apply_220 (by decide) ?_
    exact x_vret F (st2 (st2 M 11 ((16 * f) + w) ((M 11 ((16 * f) + w)) ||| ((nI 1) <<< ((nI b) &&& 31)))) 11 ((16 * f) + b) (((st2 M 11 ((16 * f) + w) ((M 11 ((16 * f) + w)) ||| ((nI 1) <<< ((nI b) &&& 31)))) 11 ((16 * f) + b)) ||| ((nI 1) <<< ((nI w) &&& 31)))) (⟨rfl, es.symm⟩) (rfl) (by omega) (by omega) dX5_apply_297
  · obtain ⟨b, hb16, eb⟩ := h45 (by omega)
    have eb : M 3 i = nI b := eb
    have es : apR M f i = unpR M f w b := by unfold apR; rw [ewc, hk]; rw [eb, nI_clamp (by omega)]; rfl
    refine x_top (nI 5) (hk) ?_
    refine x_tableIn F 223 dX5_apply_18 (by decide +kernel) (by decide +kernel) (off := 205) (by decide +kernel) (by decide) ?_
    refine x_aload_n F 1 dX5_apply_223 rfl ?_
    refine x_get F inUX5 0 11 rfl rfl (by decide) wfX5_41 rfl dX5_apply_224 ?_
    refine x_iload_n F 0 dX5_apply_227 rfl ?_
    refine x_dup2 F dX5_apply_228 rfl rfl ?_
    refine x_iald F 11 (k := (16 * f) + w) rfl (by omega) (by decide) dX5_apply_229 ?_
    refine x_iconst F (nI 1) dX5_apply_230 (by decide +kernel) ?_
    refine x_aload_n F 1 dX5_apply_231 rfl ?_
    refine x_get F inUX5 0 3 rfl rfl (by decide) wfX5_16 rfl dX5_apply_232 ?_
    refine x_iload_n F 3 dX5_apply_235 rfl ?_
    refine x_iald F 3 (k := i) rfl (by omega) (by decide) dX5_apply_236 ?_
    refine x_top (nI b) (eb) ?_
    refine x_ishl F ((nI 1) <<< ((nI b) &&& 31)) dX5_apply_237 rfl ?_
    refine x_iconst F (-1) dX5_apply_238 (by decide +kernel) ?_
    refine x_ixor F (((nI 1) <<< ((nI b) &&& 31)) ^^^ (-1)) dX5_apply_239 rfl ?_
    refine x_iand F ((M 11 ((16 * f) + w)) &&& (((nI 1) <<< ((nI b) &&& 31)) ^^^ (-1))) dX5_apply_240 rfl ?_
    refine x_iast F 11 (k := (16 * f) + w) (wR cA ar (st2 M 11 ((16 * f) + w) ((M 11 ((16 * f) + w)) &&& (((nI 1) <<< ((nI b) &&& 31)) ^^^ (-1))))) rfl (by omega) (by decide) rfl dX5_apply_241 ?_
    refine x_aload_n F 1 dX5_apply_242 rfl ?_
    refine x_get F inUX5 0 11 rfl rfl (by decide) wfX5_41 rfl dX5_apply_243 ?_
    refine x_bipush F (nI 16) dX5_apply_246 (by decide +kernel) ?_
    refine x_iload_n F 2 dX5_apply_248 rfl ?_
    refine x_imul F (nI (16 * f)) dX5_apply_249 (pk_mul _ _) ?_
    refine x_aload_n F 1 dX5_apply_250 rfl ?_
    refine x_get F inUX5 0 3 rfl rfl (by decide) wfX5_16 rfl dX5_apply_251 ?_
    refine x_iload_n F 3 dX5_apply_254 rfl ?_
    refine x_iald F 3 (k := i) rfl (by omega) (by decide) dX5_apply_255 ?_
    refine x_top (nI b) (eb) ?_
    refine x_iadd F (nI ((16 * f) + b)) dX5_apply_256 (nI_add _ _) ?_
    refine x_dup2 F dX5_apply_257 rfl rfl ?_
    refine x_iald F 11 (k := (16 * f) + b) rfl (by omega) (by decide) dX5_apply_258 ?_
    refine x_iconst F (nI 1) dX5_apply_259 (by decide +kernel) ?_
    refine x_aload_n F 1 dX5_apply_260 rfl ?_
    refine x_get F inUX5 0 2 rfl rfl (by decide) wfX5_13 rfl dX5_apply_261 ?_
    refine x_iload_n F 3 dX5_apply_264 rfl ?_
    refine x_iald F 2 (k := i) rfl (by omega) (by decide) dX5_apply_265 ?_
    refine x_top (nI w) (ew) ?_
    refine x_ishl F ((nI 1) <<< ((nI w) &&& 31)) dX5_apply_266 rfl ?_
    refine x_iconst F (-1) dX5_apply_267 (by decide +kernel) ?_
    refine x_ixor F (((nI 1) <<< ((nI w) &&& 31)) ^^^ (-1)) dX5_apply_268 rfl ?_
    refine x_iand F (((st2 M 11 ((16 * f) + w) ((M 11 ((16 * f) + w)) &&& (((nI 1) <<< ((nI b) &&& 31)) ^^^ (-1)))) 11 ((16 * f) + b)) &&& (((nI 1) <<< ((nI w) &&& 31)) ^^^ (-1))) dX5_apply_269 rfl ?_
    refine x_iast F 11 (k := (16 * f) + b) (wR cA ar (st2 (st2 M 11 ((16 * f) + w) ((M 11 ((16 * f) + w)) &&& (((nI 1) <<< ((nI b) &&& 31)) ^^^ (-1)))) 11 ((16 * f) + b) (((st2 M 11 ((16 * f) + w) ((M 11 ((16 * f) + w)) &&& (((nI 1) <<< ((nI b) &&& 31)) ^^^ (-1)))) 11 ((16 * f) + b)) &&& (((nI 1) <<< ((nI w) &&& 31)) ^^^ (-1))))) rfl (by omega) (by decide) rfl dX5_apply_270 ?_
    refine x_goto F 297 dX5_apply_271 (by decide) ?_
    exact x_vret F (st2 (st2 M 11 ((16 * f) + w) ((M 11 ((16 * f) + w)) &&& (((nI 1) <<< ((nI b) &&& 31)) ^^^ (-1)))) 11 ((16 * f) + b) (((st2 M 11 ((16 * f) + w) ((M 11 ((16 * f) + w)) &&& (((nI 1) <<< ((nI b) &&& 31)) ^^^ (-1)))) 11 ((16 * f) + b)) &&& (((nI 1) <<< ((nI w) &&& 31)) ^^^ (-1)))) (⟨rfl, es.symm⟩) (rfl) (by omega) (by omega) dX5_apply_297
  · have es : apR M f i = st2 M 10 (16 * f + w) (M 3 i) := by unfold apR; rw [ewc, hk]; rfl
    refine x_top (nI 6) (hk) ?_
    refine x_tableIn F 274 dX5_apply_18 (by decide +kernel) (by decide +kernel) (off := 256) (by decide +kernel) (by decide) ?_
    refine x_aload_n F 1 dX5_apply_274 rfl ?_
    refine x_get F inUX5 0 10 rfl rfl (by decide) wfX5_38 rfl dX5_apply_275 ?_
    refine x_iload_n F 0 dX5_apply_278 rfl ?_
    refine x_aload_n F 1 dX5_apply_279 rfl ?_
    refine x_get F inUX5 0 3 rfl rfl (by decide) wfX5_16 rfl dX5_apply_280 ?_
    refine x_iload_n F 3 dX5_apply_283 rfl ?_
    refine x_iald F 3 (k := i) rfl (by omega) (by decide) dX5_apply_284 ?_
    refine x_iast F 10 (k := (16 * f) + w) (wR cA ar (st2 M 10 ((16 * f) + w) (M 3 i))) rfl (by omega) (by decide) rfl dX5_apply_285 ?_
    refine x_goto F 297 dX5_apply_286 (by decide) ?_
    exact x_vret F (st2 M 10 ((16 * f) + w) (M 3 i)) (⟨rfl, es.symm⟩) (rfl) (by omega) (by omega) dX5_apply_297
  · have es : apR M f i = st2 M 10 (16 * f + w) (-2) := by unfold apR; rw [ewc, hk]; rfl
    refine x_top (nI 7) (hk) ?_
    refine x_tableOut F 289 dX5_apply_18 (by decide +kernel) (by decide) ?_
    refine x_aload_n F 1 dX5_apply_289 rfl ?_
    refine x_get F inUX5 0 10 rfl rfl (by decide) wfX5_38 rfl dX5_apply_290 ?_
    refine x_iload_n F 0 dX5_apply_293 rfl ?_
    refine x_bipush F (-2) dX5_apply_294 (by decide +kernel) ?_
    refine x_iast F 10 (k := (16 * f) + w) (wR cA ar (st2 M 10 ((16 * f) + w) (-2))) rfl (by omega) (by decide) rfl dX5_apply_296 ?_
    exact x_vret F (st2 M 10 ((16 * f) + w) (-2)) (⟨rfl, es.symm⟩) (rfl) (by omega) (by omega) dX5_apply_297

set_option maxHeartbeats 4000000 in
set_option maxRecDepth 100000 in
theorem c_X5_makeFacts (l : Launch) (D : va_G) (cA : Nat → ClassId) (ar : Nat → Nat) (M : Nat → Nat → Int32) (f n : Nat) (hf : f < 5) (hn : n ≤ 120) (hw : ∀ i, i < n → wfE (logR M) i) : Cg l D cA yX5_makeFacts cX5_makeFacts 4 none 2 0 0 ([.ref (ar 100), .int (nI f), .int (nI n)] : List Value) (wR cA ar M) (fun (r : Option Value) (u : Nat → Nat → Int32) => r = none ∧ u = mkR M f n) (fun u : Nat → Nat → Int32 => wR cA ar u) := by
  refine x_met (by decide +kernel) rfl (Nat.le_of_ble_eq_true rfl) ?_
  intro xp xe xs xm xbl xme xco F hnm
  refine x_lv [(0, .ref (ar 100)), (1, .int (nI f)), (2, .int (nI n))] [0, 1, 2] rfl ?_
  refine x_aload_n F 0 dX5_makeFacts_0 rfl ?_
  refine x_iload_n F 1 dX5_makeFacts_1 rfl ?_
  refine x_callV F [] ([]) [0, 1, 2, 3, 4, 5, 6, 7, 8, 9, 10, 11, 12, 13, 14, 15, 16, 17, 18, 19, 20, 21, 22, 23, 24, 25] [] (c_X5_forget l D cA ar M f hf) mwX5_forget wmX5_86 rfl (q0 := 0) rfl rfl rfl (Nat.le_of_ble_eq_true rfl) ⟨by decide, by decide⟩ ⟨by show _ ≤ 0; omega, by show _ ≤ 0; omega⟩ rfl rfl (by decide) (by decide) (by decide) dX5_makeFacts_2 (fun r1 u2 hp3 => ?_)
  obtain ⟨rfl, rfl⟩ := hp3
  refine x_iconst F (nI 0) dX5_makeFacts_5 (by decide +kernel) ?_
  refine x_istore_n F [(3, .int (nI 0)), (0, .ref (ar 100)), (1, .int (nI f)), (2, .int (nI n))] dX5_makeFacts_6 (by decide) rfl ?_
  refine x_ws (wR cA ar (itR f 0 (fgS M f 6))) rfl ?_
  refine x_lv [(0, .ref (ar 100)), (1, .int (nI f)), (2, .int (nI n)), (3, .int (nI 0))] [1, 2, 3, 0] rfl ?_
  have loop7 : ∀ (nn7 : Nat) (x : Nat), (x ≤ n) → (n - x < nn7) → Wx xp l xe (rmL 2 0 0) xs xm ([.ref (ar 100), .int (nI f), .int (nI n)] : List Value).toArray xbl xme xco 0 0 (xQ xbl D (wR cA ar M) xs ([.ref (ar 100), .int (nI f), .int (nI n)] : List Value).toArray 0 0 (fun (r : Option Value) (u : Nat → Nat → Int32) => r = none ∧ u = mkR M f n) (fun u : Nat → Nat → Int32 => wR cA ar u)) 4 D (va_A (wR cA ar M) xs.heap.size) 7 [(0, .ref (ar 100)), (1, .int (nI f)), (2, .int (nI n)), (3, .int (nI x))] [] (wR cA ar (itR f x (fgS M f 6))) := by
    intro nn7
    induction nn7 with
    | zero =>
      intro x hx hm7
      exact absurd hm7 (Nat.not_lt_zero _)
    | succ nn7 ih7 =>
      intro x hx hm7
      refine x_iload_n F 3 dX5_makeFacts_7 rfl ?_
      refine x_iload_n F 2 dX5_makeFacts_8 rfl ?_
      refine x_icmp_ge F 24 dX5_makeFacts_9 (by decide) (fun h9 => ?_) (fun h9 => ?_)
      · have h9n : n ≤ x := (nI_leI (by omega) (by omega)).mp h9
        obtain rfl : n = x := by omega
        exact x_vret F (itR f n (fgS M f 6)) (⟨rfl, rfl⟩) (rfl) (by omega) (by omega) dX5_makeFacts_24
      · have h9n : ¬ n ≤ x := fun z => h9 ((nI_leI (by omega) (by omega)).mpr z)
        refine x_aload_n F 0 dX5_makeFacts_12 rfl ?_
        refine x_iload_n F 1 dX5_makeFacts_13 rfl ?_
        refine x_iload_n F 3 dX5_makeFacts_14 rfl ?_
        refine x_callV F [] ([]) [0, 1, 2, 3, 4, 5, 6, 7, 8, 9, 10, 11, 12, 13, 14, 15, 16, 17, 18, 19, 20, 21, 22, 23, 24, 25] [] (c_X5_apply l D cA ar (itR f x (fgS M f 6)) f x hf (by omega) (wfE_log (fun k hk => by rw [itR_o _ _ _ _ (Or.inl hk), fgS_o _ _ _ _ (Or.inl hk)]) (hw x (by omega)))) mwX5_apply wmX5_94 rfl (q0 := 0) rfl rfl rfl (Nat.le_of_ble_eq_true rfl) ⟨by decide, by decide⟩ ⟨by show _ ≤ 0; omega, by show _ ≤ 0; omega⟩ rfl rfl (by decide) (by decide) (by decide) dX5_makeFacts_15 (fun r4 u5 hp6 => ?_)
        obtain ⟨rfl, rfl⟩ := hp6
        refine x_iinc F (nI (x + 1)) 3 [(3, .int (nI (x + 1))), (0, .ref (ar 100)), (1, .int (nI f)), (2, .int (nI n))] dX5_makeFacts_18 rfl ((nI_add x 1)) (by decide) rfl ?_
        refine x_goto F 7 dX5_makeFacts_21 (by decide) ?_
        refine x_ws (wR cA ar (itR f (x + 1) (fgS M f 6))) rfl ?_
        refine x_lv [(0, .ref (ar 100)), (1, .int (nI f)), (2, .int (nI n)), (3, .int (nI (x + 1)))] [1, 2, 3, 0] rfl ?_
        exact ih7 (x + 1) (by omega) (by omega)
  exact loop7 _ 0 (Nat.zero_le _) (Nat.lt_succ_self _)

set_option maxHeartbeats 4000000 in
set_option maxRecDepth 100000 in
theorem c_X5_add (l : Launch) (D : va_G) (cA : Nat → ClassId) (ar : Nat → Nat) (M : Nat → Nat → Int32) (n : Nat) (p1 p2 p3 p4 p5 : Int32) (hc : M 0 0 = nI n) (hn : n ≤ 120) (hw : wfE (logR (enR M n p1 p2 p3 p4 p5)) n) : Cg l D cA yX5_add cX5_add 6 (some .int) 2 0 0 ([.ref (ar 100), .int p1, .int p2, .int p3, .int p4, .int p5] : List Value) (wR cA ar M) (fun (r : Option Value) (u : Nat → Nat → Int32) => ∃ x, r = some (.int x) ∧ (n = 120 → x = (-4) ∧ u = M) ∧ (n < 120 → x = nI (n + 1) ∧ u = apR (enR M n p1 p2 p3 p4 p5) 4 n)) (fun u : Nat → Nat → Int32 => wR cA ar u) := by
  refine x_met (by decide +kernel) rfl (Nat.le_of_ble_eq_true rfl) ?_
  intro xp xe xs xm xbl xme xco F hnm
  refine x_lv [(0, .ref (ar 100)), (1, .int p1), (2, .int p2), (3, .int p3), (4, .int p4), (5, .int p5)] [0, 1, 2, 3, 4, 5] rfl ?_
  refine x_aload_n F 0 dX5_add_0 rfl ?_
  refine x_get F inUX5 0 0 rfl rfl (by decide) wfX5_97 rfl dX5_add_1 ?_
  refine x_top (nI n) (hc) ?_
  refine x_bipush F (nI 120) dX5_add_4 (by decide +kernel) ?_
  refine x_icmp_ne F 12 dX5_add_6 (by decide) (fun h6 => ?_) (fun h6 => ?_)
  · have h6n : ¬ n = 120 := fun z => h6 ((nI_eq (by omega) (by decide)).mpr z)
    refine x_aload_n F 0 dX5_add_12 rfl ?_
    refine x_get F inUX5 0 1 rfl rfl (by decide) wfX5_7 rfl dX5_add_13 ?_
    refine x_aload_n F 0 dX5_add_16 rfl ?_
    refine x_get F inUX5 0 0 rfl rfl (by decide) wfX5_97 rfl dX5_add_17 ?_
    refine x_top (nI n) (hc) ?_
    refine x_iload_n F 1 dX5_add_20 rfl ?_
    refine x_iast F 1 (k := n) (wR cA ar (st2 M 1 n p1)) rfl (by omega) (by decide) rfl dX5_add_21 ?_
    refine x_aload_n F 0 dX5_add_22 rfl ?_
    refine x_get F inUX5 0 2 rfl rfl (by decide) wfX5_13 rfl dX5_add_23 ?_
    refine x_aload_n F 0 dX5_add_26 rfl ?_
    refine x_get F inUX5 0 0 rfl rfl (by decide) wfX5_97 rfl dX5_add_27 ?_
    refine x_top (nI n) (hc) ?_
    refine x_iload_n F 2 dX5_add_30 rfl ?_
    refine x_iast F 2 (k := n) (wR cA ar (st2 (st2 M 1 n p1) 2 n p2)) rfl (by omega) (by decide) rfl dX5_add_31 ?_
    refine x_aload_n F 0 dX5_add_32 rfl ?_
    refine x_get F inUX5 0 3 rfl rfl (by decide) wfX5_16 rfl dX5_add_33 ?_
    refine x_aload_n F 0 dX5_add_36 rfl ?_
    refine x_get F inUX5 0 0 rfl rfl (by decide) wfX5_97 rfl dX5_add_37 ?_
    refine x_top (nI n) (hc) ?_
    refine x_iload_n F 3 dX5_add_40 rfl ?_
    refine x_iast F 3 (k := n) (wR cA ar (st2 (st2 (st2 M 1 n p1) 2 n p2) 3 n p3)) rfl (by omega) (by decide) rfl dX5_add_41 ?_
    refine x_aload_n F 0 dX5_add_42 rfl ?_
    refine x_get F inUX5 0 4 rfl rfl (by decide) wfX5_19 rfl dX5_add_43 ?_
    refine x_aload_n F 0 dX5_add_46 rfl ?_
    refine x_get F inUX5 0 0 rfl rfl (by decide) wfX5_97 rfl dX5_add_47 ?_
    refine x_top (nI n) (hc) ?_
    refine x_iload F 4 dX5_add_50 rfl ?_
    refine x_iast F 4 (k := n) (wR cA ar (st2 (st2 (st2 (st2 M 1 n p1) 2 n p2) 3 n p3) 4 n p4)) rfl (by omega) (by decide) rfl dX5_add_52 ?_
    refine x_aload_n F 0 dX5_add_53 rfl ?_
    refine x_get F inUX5 0 5 rfl rfl (by decide) wfX5_22 rfl dX5_add_54 ?_
    refine x_aload_n F 0 dX5_add_57 rfl ?_
    refine x_get F inUX5 0 0 rfl rfl (by decide) wfX5_97 rfl dX5_add_58 ?_
    refine x_top (nI n) (hc) ?_
    refine x_iload F 5 dX5_add_61 rfl ?_
    refine x_iast F 5 (k := n) (wR cA ar (st2 (st2 (st2 (st2 (st2 M 1 n p1) 2 n p2) 3 n p3) 4 n p4) 5 n p5)) rfl (by omega) (by decide) rfl dX5_add_63 ?_
    refine x_aload_n F 0 dX5_add_64 rfl ?_
    refine x_dup F dX5_add_65 rfl ?_
    refine x_get F inUX5 0 0 rfl rfl (by decide) wfX5_97 rfl dX5_add_66 ?_
    refine x_top (nI n) (hc) ?_
    refine x_iconst F (nI 1) dX5_add_69 (by decide +kernel) ?_
    refine x_iadd F (nI (n + 1)) dX5_add_70 (nI_add _ _) ?_
    refine x_put F inUX5 tyX5_ok nmX5 0 0 (wR cA ar (st2 (st2 (st2 (st2 (st2 (st2 M 1 n p1) 2 n p2) 3 n p3) 4 n p4) 5 n p5) 0 0 (nI (n + 1)))) rfl rfl (by decide) wfX5_97 rfl rfl rfl rfl (Nat.le_of_ble_eq_true rfl) rfl dX5_add_71 ?_
    refine x_aload_n F 0 dX5_add_74 rfl ?_
    refine x_iconst F (nI 4) dX5_add_75 (by decide +kernel) ?_
    refine x_aload_n F 0 dX5_add_76 rfl ?_
    refine x_get F inUX5 0 0 rfl rfl (by decide) wfX5_97 rfl dX5_add_77 ?_
    refine x_top (nI (n + 1)) (rfl) ?_
    refine x_iconst F (nI 1) dX5_add_80 (by decide +kernel) ?_
    refine x_isub F ((nI (n + 1)) - (nI 1)) dX5_add_81 rfl ?_
    refine x_top (nI n) (nI_pred n) ?_
    refine x_ws (wR cA ar (enR M n p1 p2 p3 p4 p5)) rfl ?_
    refine x_callV F [] ([]) [0, 1, 2, 3, 4, 5, 6, 7, 8, 9, 10, 11, 12, 13, 14, 15, 16, 17, 18, 19, 20, 21, 22, 23, 24, 25] [] (c_X5_apply l D cA ar (enR M n p1 p2 p3 p4 p5) 4 n (by decide) (by omega) hw) mwX5_apply wmX5_94 rfl (q0 := 0) rfl rfl rfl (Nat.le_of_ble_eq_true rfl) ⟨by decide, by decide⟩ ⟨by show _ ≤ 0; omega, by show _ ≤ 0; omega⟩ rfl rfl (by decide) (by decide) (by decide) dX5_add_82 (fun r1 u2 hp3 => ?_)
    obtain ⟨rfl, rfl⟩ := hp3
    refine x_aload_n F 0 dX5_add_85 rfl ?_
    refine x_get F inUX5 0 0 rfl rfl (by decide) wfX5_97 rfl dX5_add_86 ?_
    refine x_top (nI (n + 1)) (by rw [apR_o _ _ _ _ (Or.inl (by decide))]; rfl) ?_
    exact x_iret F (apR (enR M n p1 p2 p3 p4 p5) 4 n) (⟨_, rfl, fun z => absurd z (by omega), fun _ => ⟨rfl, rfl⟩⟩) (rfl) (by omega) (by omega) dX5_add_89
  · have h6n : n = 120 := (nI_eq (by omega) (by decide)).mp h6
    refine x_bipush F (-4) dX5_add_9 (by decide +kernel) ?_
    exact x_iret F M (⟨_, rfl, fun _ => ⟨rfl, rfl⟩, fun z => absurd z (by omega)⟩) (rfl) (by omega) (by omega) dX5_add_11

set_option maxHeartbeats 4000000 in
set_option maxRecDepth 100000 in
theorem c_X5_isJob (l : Launch) (D : va_G) (cA : Nat → ClassId) (ar : Nat → Nat) (M : Nat → Nat → Int32) (p0 : Int32)  : Cr l D cA yX5_isJob cX5_isJob 2 (some .boolean) 1 ([.ref (ar 100), .int p0] : List Value) (wR cA ar M) (fun r : Option Value => r = some (.int (bz ((nI 0 ≤ p0 ∧ p0 ≤ nI 15) ∧ ¬ slc 4 M 2 p0.toNatClampNeg = 0)))) := by
  refine x_met (by decide +kernel) rfl (Nat.le_of_ble_eq_true rfl) ?_
  intro xp xe xs xm xbl xme xco F hnm
  refine x_lv [(0, .ref (ar 100)), (1, .int p0)] [0, 1] rfl ?_
  refine x_iload_n F 1 dX5_isJob_0 rfl ?_
  refine x_iconst F (nI 0) dX5_isJob_1 (by decide +kernel) ?_
  refine x_bipush F (nI 15) dX5_isJob_2 (by decide +kernel) ?_
  refine x_callSr F [] [] (c_X5_in l D cA p0 (nI 0) (nI 15)) mwX5_in wmX5_101 rfl rfl (Nat.le_of_ble_eq_true rfl) ⟨by decide, by decide⟩ ⟨by show _ ≤ 0; omega, by show _ ≤ 0; omega⟩ rfl (by decide) dX5_isJob_4 (fun r1 hp2 => ?_)
  subst hp2
  refine x_if_eq F 26 dX5_isJob_7 (by decide) (fun h7 => ?_) (fun h7 => ?_)
  · refine x_iconst F (nI 0) dX5_isJob_26 (by decide +kernel) ?_
    exact x_zret F (by decide +kernel) () (by first | rw [has_1 (M := slc 4 M) hj h19] | rw [has_2 (M := slc 4 M) hj h19] | rw [has_3 h7]) (rfl) (by omega) (by omega) dX5_isJob_27
  · obtain ⟨j, hj, rfl⟩ := wn (n := 15) (by decide) (bz_n0.mp h7)
    refine x_aload_n F 0 dX5_isJob_10 rfl ?_
    refine x_get F inUX5 0 6 rfl rfl (by decide) wfX5_25 rfl dX5_isJob_11 ?_
    refine x_bipush F (nI 64) dX5_isJob_14 (by decide +kernel) ?_
    refine x_iload_n F 1 dX5_isJob_16 rfl ?_
    refine x_iadd F (nI (64 + j)) dX5_isJob_17 (nI_add _ _) ?_
    refine x_zald F 6 (k := 64 + j) rfl (by omega) (by decide) dX5_isJob_18 ?_
    refine x_if_eq F 26 dX5_isJob_19 (by decide) (fun h19 => ?_) (fun h19 => ?_)
    · refine x_iconst F (nI 0) dX5_isJob_26 (by decide +kernel) ?_
      exact x_zret F (by decide +kernel) () (by first | rw [has_1 (M := slc 4 M) hj h19] | rw [has_2 (M := slc 4 M) hj h19] | rw [has_3 h7]) (rfl) (by omega) (by omega) dX5_isJob_27
    · refine x_iconst F (nI 1) dX5_isJob_22 (by decide +kernel) ?_
      refine x_goto F 27 dX5_isJob_23 (by decide) ?_
      exact x_zret F (by decide +kernel) () (by first | rw [has_1 (M := slc 4 M) hj h19] | rw [has_2 (M := slc 4 M) hj h19] | rw [has_3 h7]) (rfl) (by omega) (by omega) dX5_isJob_27

set_option maxHeartbeats 4000000 in
set_option maxRecDepth 100000 in
theorem c_X5_isSolve (l : Launch) (D : va_G) (cA : Nat → ClassId) (ar : Nat → Nat) (M : Nat → Nat → Int32) (p0 : Int32)  : Cr l D cA yX5_isSolve cX5_isSolve 2 (some .boolean) 1 ([.ref (ar 100), .int p0] : List Value) (wR cA ar M) (fun r : Option Value => r = some (.int (bz (nI 0 ≤ p0 ∧ p0 ≤ M 17 0 - nI 1)))) := by
  refine x_met (by decide +kernel) rfl (Nat.le_of_ble_eq_true rfl) ?_
  intro xp xe xs xm xbl xme xco F hnm
  refine x_lv [(0, .ref (ar 100)), (1, .int p0)] [0, 1] rfl ?_
  refine x_iload_n F 1 dX5_isSolve_0 rfl ?_
  refine x_iconst F (nI 0) dX5_isSolve_1 (by decide +kernel) ?_
  refine x_aload_n F 0 dX5_isSolve_2 rfl ?_
  refine x_get F inUX5 0 17 rfl rfl (by decide) wfX5_129 rfl dX5_isSolve_3 ?_
  refine x_iconst F (nI 1) dX5_isSolve_6 (by decide +kernel) ?_
  refine x_isub F ((M 17 0) - (nI 1)) dX5_isSolve_7 rfl ?_
  refine x_callSr F [] [] (c_X5_in l D cA p0 (nI 0) ((M 17 0) - (nI 1))) mwX5_in wmX5_101 rfl rfl (Nat.le_of_ble_eq_true rfl) ⟨by decide, by decide⟩ ⟨by show _ ≤ 0; omega, by show _ ≤ 0; omega⟩ rfl (by decide) dX5_isSolve_8 (fun r1 hp2 => ?_)
  subst hp2
  exact x_zret F (bz_nar) () (rfl) (rfl) (by omega) (by omega) dX5_isSolve_11

set_option maxHeartbeats 4000000 in
set_option maxRecDepth 100000 in
theorem c_X5_roomOf (l : Launch) (D : va_G) (cA : Nat → ClassId) (ar : Nat → Nat) (M : Nat → Nat → Int32) (a j b : Nat) (ha : a < 20) (hj : j < 16) (hb : b < 5) : Cr l D cA yX5_roomOf cX5_roomOf 4 (some .int) 0 ([.ref (ar 100), .int (nI a), .int (nI j), .int (nI b)] : List Value) (wR cA ar M) (fun r : Option Value => r = some (.int (rmO M a b j))) := by
  refine x_met (by decide +kernel) rfl (Nat.le_of_ble_eq_true rfl) ?_
  intro xp xe xs xm xbl xme xco F hnm
  refine x_lv [(0, .ref (ar 100)), (1, .int (nI a)), (2, .int (nI j)), (3, .int (nI b))] [0, 1, 2, 3] rfl ?_
  refine x_aload_n F 0 dX5_roomOf_0 rfl ?_
  refine x_get F inUX5 0 6 rfl rfl (by decide) wfX5_25 rfl dX5_roomOf_1 ?_
  refine x_bipush F (nI 16) dX5_roomOf_4 (by decide +kernel) ?_
  refine x_iload_n F 3 dX5_roomOf_6 rfl ?_
  refine x_imul F (nI (16 * b)) dX5_roomOf_7 (pk_mul _ _) ?_
  refine x_iload_n F 2 dX5_roomOf_8 rfl ?_
  refine x_iadd F (nI ((16 * b) + j)) dX5_roomOf_9 (nI_add _ _) ?_
  refine x_zald F 6 (k := (16 * b) + j) rfl (by omega) (by decide) dX5_roomOf_10 ?_
  refine x_if_eq F 28 dX5_roomOf_11 (by decide) (fun h11 => ?_) (fun h11 => ?_)
  · refine x_iconst F (-1) dX5_roomOf_28 (by decide +kernel) ?_
    exact x_iret F () (by unfold rmO; rw [if_pos h11]) (rfl) (by omega) (by omega) dX5_roomOf_29
  · refine x_aload_n F 0 dX5_roomOf_14 rfl ?_
    refine x_get F inUX5 0 14 rfl rfl (by decide) wfX5_47 rfl dX5_roomOf_15 ?_
    refine x_bipush F (nI 16) dX5_roomOf_18 (by decide +kernel) ?_
    refine x_iload_n F 1 dX5_roomOf_20 rfl ?_
    refine x_imul F (nI (16 * a)) dX5_roomOf_21 (pk_mul _ _) ?_
    refine x_iload_n F 2 dX5_roomOf_22 rfl ?_
    refine x_iadd F (nI ((16 * a) + j)) dX5_roomOf_23 (nI_add _ _) ?_
    refine x_iald F 13 (k := (16 * a) + j) rfl (by omega) (by decide) dX5_roomOf_24 ?_
    refine x_goto F 29 dX5_roomOf_25 (by decide) ?_
    exact x_iret F () (by unfold rmO; rw [if_neg h11]) (rfl) (by omega) (by omega) dX5_roomOf_29

set_option maxHeartbeats 4000000 in
set_option maxRecDepth 100000 in
theorem c_X5_copyPlan (l : Launch) (D : va_G) (cA : Nat → ClassId) (ar : Nat → Nat) (M : Nat → Nat → Int32) (a b : Nat) (ha : a < 20) (hb : b < 20) : Cg l D cA yX5_copyPlan cX5_copyPlan 4 none 0 0 0 ([.ref (ar 100), .int (nI a), .int (nI b)] : List Value) (wR cA ar M) (fun (r : Option Value) (u : Nat → Nat → Int32) => r = none ∧ u = cpR M a b 16) (fun u : Nat → Nat → Int32 => wR cA ar u) := by
  refine x_met (by decide +kernel) rfl (Nat.le_of_ble_eq_true rfl) ?_
  intro xp xe xs xm xbl xme xco F hnm
  refine x_lv [(0, .ref (ar 100)), (1, .int (nI a)), (2, .int (nI b))] [0, 1, 2] rfl ?_
  refine x_iconst F (nI 0) dX5_copyPlan_0 (by decide +kernel) ?_
  refine x_istore_n F [(3, .int (nI 0)), (0, .ref (ar 100)), (1, .int (nI a)), (2, .int (nI b))] dX5_copyPlan_1 (by decide) rfl ?_
  refine x_ws (wR cA ar (cpR M a b 0)) (by rw [cpR_0]) ?_
  refine x_lv [(0, .ref (ar 100)), (1, .int (nI a)), (2, .int (nI b)), (3, .int (nI 0))] [1, 2, 3, 0] rfl ?_
  have loop2 : ∀ (nn2 : Nat) (x : Nat), (x ≤ 16) → (16 - x < nn2) → Wx xp l xe (rmL 0 0 0) xs xm ([.ref (ar 100), .int (nI a), .int (nI b)] : List Value).toArray xbl xme xco 0 0 (xQ xbl D (wR cA ar M) xs ([.ref (ar 100), .int (nI a), .int (nI b)] : List Value).toArray 0 0 (fun (r : Option Value) (u : Nat → Nat → Int32) => r = none ∧ u = cpR M a b 16) (fun u : Nat → Nat → Int32 => wR cA ar u)) 4 D (va_A (wR cA ar M) xs.heap.size) 2 [(0, .ref (ar 100)), (1, .int (nI a)), (2, .int (nI b)), (3, .int (nI x))] [] (wR cA ar (cpR M a b x)) := by
    intro nn2
    induction nn2 with
    | zero =>
      intro x hx hm2
      exact absurd hm2 (Nat.not_lt_zero _)
    | succ nn2 ih2 =>
      intro x hx hm2
      refine x_iload_n F 3 dX5_copyPlan_2 rfl ?_
      refine x_bipush F (nI 16) dX5_copyPlan_3 (by decide +kernel) ?_
      refine x_icmp_ge F 36 dX5_copyPlan_5 (by decide) (fun h5 => ?_) (fun h5 => ?_)
      · have h5n : 16 ≤ x := (nI_leI (by decide) (by omega)).mp h5
        obtain rfl : 16 = x := by omega
        exact x_vret F (cpR M a b 16) (⟨rfl, rfl⟩) (rfl) (by omega) (by omega) dX5_copyPlan_36
      · have h5n : ¬ 16 ≤ x := fun z => h5 ((nI_leI (by decide) (by omega)).mpr z)
        refine x_aload_n F 0 dX5_copyPlan_8 rfl ?_
        refine x_get F inUX5 0 14 rfl rfl (by decide) wfX5_47 rfl dX5_copyPlan_9 ?_
        refine x_bipush F (nI 16) dX5_copyPlan_12 (by decide +kernel) ?_
        refine x_iload_n F 2 dX5_copyPlan_14 rfl ?_
        refine x_imul F (nI (16 * b)) dX5_copyPlan_15 (pk_mul _ _) ?_
        refine x_iload_n F 3 dX5_copyPlan_16 rfl ?_
        refine x_iadd F (nI ((16 * b) + x)) dX5_copyPlan_17 (nI_add _ _) ?_
        refine x_aload_n F 0 dX5_copyPlan_18 rfl ?_
        refine x_get F inUX5 0 14 rfl rfl (by decide) wfX5_47 rfl dX5_copyPlan_19 ?_
        refine x_bipush F (nI 16) dX5_copyPlan_22 (by decide +kernel) ?_
        refine x_iload_n F 1 dX5_copyPlan_24 rfl ?_
        refine x_imul F (nI (16 * a)) dX5_copyPlan_25 (pk_mul _ _) ?_
        refine x_iload_n F 3 dX5_copyPlan_26 rfl ?_
        refine x_iadd F (nI ((16 * a) + x)) dX5_copyPlan_27 (nI_add _ _) ?_
        refine x_iald F 13 (k := (16 * a) + x) rfl (by omega) (by decide) dX5_copyPlan_28 ?_
        refine x_iast F 13 (k := (16 * b) + x) (wR cA ar (st2 (cpR M a b x) 14 ((16 * b) + x) ((cpR M a b x) 14 ((16 * a) + x)))) rfl (by omega) (by decide) rfl dX5_copyPlan_29 ?_
        refine x_iinc F (nI (x + 1)) 3 [(3, .int (nI (x + 1))), (0, .ref (ar 100)), (1, .int (nI a)), (2, .int (nI b))] dX5_copyPlan_30 rfl ((nI_add x 1)) (by decide) rfl ?_
        refine x_goto F 2 dX5_copyPlan_33 (by decide) ?_
        rw [cpR_s _ _ _ _ (by omega)]
        refine x_lv [(0, .ref (ar 100)), (1, .int (nI a)), (2, .int (nI b)), (3, .int (nI (x + 1)))] [1, 2, 3, 0] rfl ?_
        exact ih2 (x + 1) (by omega) (by omega)
  exact loop2 _ 0 (Nat.zero_le _) (Nat.lt_succ_self _)

set_option maxHeartbeats 4000000 in
set_option maxRecDepth 100000 in
theorem c_X5_isFree (l : Launch) (D : va_G) (cA : Nat → ClassId) (ar : Nat → Nat) (M : Nat → Nat → Int32) (s_ j : Nat) (hs : s_ < 5) (hj : j < 16) : Cr l D cA yX5_isFree cX5_isFree 3 (some .boolean) 0 ([.ref (ar 100), .int (nI s_), .int (nI j)] : List Value) (wR cA ar M) (fun r : Option Value => r = some (.int (bz (¬ slc s_ M 2 j = 0 ∧ slc s_ M 6 j = (-2))))) := by
  refine x_met (by decide +kernel) rfl (Nat.le_of_ble_eq_true rfl) ?_
  intro xp xe xs xm xbl xme xco F hnm
  refine x_lv [(0, .ref (ar 100)), (1, .int (nI s_)), (2, .int (nI j))] [0, 1, 2] rfl ?_
  refine x_aload_n F 0 dX5_isFree_0 rfl ?_
  refine x_get F inUX5 0 6 rfl rfl (by decide) wfX5_25 rfl dX5_isFree_1 ?_
  refine x_bipush F (nI 16) dX5_isFree_4 (by decide +kernel) ?_
  refine x_iload_n F 1 dX5_isFree_6 rfl ?_
  refine x_imul F (nI (16 * s_)) dX5_isFree_7 (pk_mul _ _) ?_
  refine x_iload_n F 2 dX5_isFree_8 rfl ?_
  refine x_iadd F (nI ((16 * s_) + j)) dX5_isFree_9 (nI_add _ _) ?_
  refine x_zald F 6 (k := (16 * s_) + j) rfl (by omega) (by decide) dX5_isFree_10 ?_
  refine x_if_eq F 34 dX5_isFree_11 (by decide) (fun h11 => ?_) (fun h11 => ?_)
  · refine x_iconst F (nI 0) dX5_isFree_34 (by decide +kernel) ?_
    exact x_zret F (by decide +kernel) () (by rw [bz_f (fun z => z.1 h11)]; rfl) (rfl) (by omega) (by omega) dX5_isFree_35
  · refine x_aload_n F 0 dX5_isFree_14 rfl ?_
    refine x_get F inUX5 0 10 rfl rfl (by decide) wfX5_38 rfl dX5_isFree_15 ?_
    refine x_bipush F (nI 16) dX5_isFree_18 (by decide +kernel) ?_
    refine x_iload_n F 1 dX5_isFree_20 rfl ?_
    refine x_imul F (nI (16 * s_)) dX5_isFree_21 (pk_mul _ _) ?_
    refine x_iload_n F 2 dX5_isFree_22 rfl ?_
    refine x_iadd F (nI ((16 * s_) + j)) dX5_isFree_23 (nI_add _ _) ?_
    refine x_iald F 10 (k := (16 * s_) + j) rfl (by omega) (by decide) dX5_isFree_24 ?_
    refine x_bipush F (-2) dX5_isFree_25 (by decide +kernel) ?_
    refine x_icmp_ne F 34 dX5_isFree_27 (by decide) (fun h27 => ?_) (fun h27 => ?_)
    · refine x_iconst F (nI 0) dX5_isFree_34 (by decide +kernel) ?_
      exact x_zret F (by decide +kernel) () (by rw [bz_f (fun z => h27 z.2)]; rfl) (rfl) (by omega) (by omega) dX5_isFree_35
    · refine x_iconst F (nI 1) dX5_isFree_30 (by decide +kernel) ?_
      refine x_goto F 35 dX5_isFree_31 (by decide) ?_
      exact x_zret F (by decide +kernel) () (by rw [bz_t ⟨h11, h27⟩]; rfl) (rfl) (by omega) (by omega) dX5_isFree_35

theorem mvc_lt_16 {M : Nat → Nat → Int32} {k j : Nat} (hk : k < mvc M 16) (hj : mvc M j ≤ k) : j < 16 := by
  rcases Nat.lt_or_ge j 16 with h | h
  · exact h
  · have mono : ∀ d, mvc M 16 ≤ mvc M (16 + d) := by
      intro d
      induction d with
      | zero => exact Nat.le_refl _
      | succ d ih => exact Nat.le_trans ih (mvc_s M (16 + d))
    have := mono (j - 16)
    rw [show 16 + (j - 16) = j by omega] at this
    omega
set_option maxHeartbeats 4000000 in
set_option maxRecDepth 100000 in
theorem c_X5_nth (l : Launch) (D : va_G) (cA : Nat → ClassId) (ar : Nat → Nat) (M : Nat → Nat → Int32) (s_ k : Nat) (hs : s_ < 5) (hk : k < mvc (slc s_ M) 16) : Cr l D cA yX5_nth cX5_nth 5 (some .int) 1 ([.ref (ar 100), .int (nI s_), .int (nI k)] : List Value) (wR cA ar M) (fun r : Option Value => ∃ j : Nat, r = some (.int (nI j)) ∧ j < 16 ∧ (¬ slc s_ M 2 j = 0 ∧ slc s_ M 6 j = (-2)) ∧ mvc (slc s_ M) j = k) := by
  refine x_met (by decide +kernel) rfl (Nat.le_of_ble_eq_true rfl) ?_
  intro xp xe xs xm xbl xme xco F hnm
  refine x_lv [(0, .ref (ar 100)), (1, .int (nI s_)), (2, .int (nI k))] [0, 1, 2] rfl ?_
  refine x_iload_n F 2 dX5_nth_0 rfl ?_
  refine x_istore_n F [(3, .int (nI k)), (0, .ref (ar 100)), (1, .int (nI s_)), (2, .int (nI k))] dX5_nth_1 (by decide) rfl ?_
  refine x_iconst F (nI 0) dX5_nth_2 (by decide +kernel) ?_
  refine x_istore F [(4, .int (nI 0)), (3, .int (nI k)), (0, .ref (ar 100)), (1, .int (nI s_)), (2, .int (nI k))] dX5_nth_3 (by decide) rfl ?_
  have hk16 := mvc_le (slc s_ M) 16
  refine x_lv [(0, .ref (ar 100)), (1, .int (nI s_)), (2, .int (nI k)), (3, .int (nI k)), (4, .int (nI 0))] [2, 3, 4, 1, 0] rfl ?_
  have loop5 : ∀ (nn5 : Nat) (j : Nat) (d : Nat), (d + mvc (slc s_ M) j = k) → (16 - j < nn5) → Wx xp l xe (rmL 1 0 0) xs xm ([.ref (ar 100), .int (nI s_), .int (nI k)] : List Value).toArray xbl xme xco 0 0 (xQ xbl D (wR cA ar M) xs ([.ref (ar 100), .int (nI s_), .int (nI k)] : List Value).toArray 0 0 (fun (r : Option Value) (_ : Unit) => ∃ j : Nat, r = some (.int (nI j)) ∧ j < 16 ∧ (¬ slc s_ M 2 j = 0 ∧ slc s_ M 6 j = (-2)) ∧ mvc (slc s_ M) j = k) (fun _ : Unit => wR cA ar M)) 5 D (va_A (wR cA ar M) xs.heap.size) 5 [(0, .ref (ar 100)), (1, .int (nI s_)), (2, .int (nI k)), (3, .int (nI d)), (4, .int (nI j))] [] (wR cA ar M) := by
    intro nn5
    induction nn5 with
    | zero =>
      intro j d hd hm5
      exact absurd hm5 (Nat.not_lt_zero _)
    | succ nn5 ih5 =>
      intro j d hd hm5
      refine x_aload_n F 0 dX5_nth_5 rfl ?_
      have hj16 := mvc_lt_16 (j := j) hk (by omega)
      refine x_iload_n F 1 dX5_nth_6 rfl ?_
      refine x_iload F 4 dX5_nth_7 rfl ?_
      refine x_callVr F [] [0, 1, 2, 3, 4, 5, 6, 7, 8, 9, 10, 11, 12, 13, 14, 15, 16, 17, 18, 19, 20, 21, 22, 23, 24, 25] (c_X5_isFree l D cA ar M s_ j hs (by omega)) mwX5_isFree wmX5_156 rfl (q0 := 0) rfl rfl rfl (Nat.le_of_ble_eq_true rfl) ⟨by decide, by decide⟩ ⟨by show _ ≤ 0; omega, by show _ ≤ 0; omega⟩ rfl (by decide) dX5_nth_9 (fun r1 hp2 => ?_)
      subst hp2
      refine x_if_eq F 19 dX5_nth_12 (by decide) (fun h12 => ?_) (fun h12 => ?_)
      · refine x_iload_n F 3 dX5_nth_19 rfl ?_
        refine x_aload_n F 0 dX5_nth_20 rfl ?_
        refine x_iload_n F 1 dX5_nth_21 rfl ?_
        refine x_iload F 4 dX5_nth_22 rfl ?_
        refine x_callVr F [.int (nI d)] [0, 1, 2, 3, 4, 5, 6, 7, 8, 9, 10, 11, 12, 13, 14, 15, 16, 17, 18, 19, 20, 21, 22, 23, 24, 25] (c_X5_isFree l D cA ar M s_ j hs (by omega)) mwX5_isFree wmX5_156 rfl (q0 := 0) rfl rfl rfl (Nat.le_of_ble_eq_true rfl) ⟨by decide, by decide⟩ ⟨by show _ ≤ 0; omega, by show _ ≤ 0; omega⟩ rfl (by decide) dX5_nth_24 (fun r3 hp4 => ?_)
        subst hp4
        refine x_if_eq F 34 dX5_nth_27 (by decide) (fun h27 => ?_) (fun h27 => ?_)
        · refine x_iconst F (nI 0) dX5_nth_34 (by decide +kernel) ?_
          refine x_isub F ((nI d) - (nI 0)) dX5_nth_35 rfl ?_
          refine x_top (nI d) (by rw [show nI 0 = (0 : Int32) from nI_0]; exact Int32.sub_zero _) ?_
          refine x_istore_n F [(3, .int (nI d)), (0, .ref (ar 100)), (1, .int (nI s_)), (2, .int (nI k)), (4, .int (nI j))] dX5_nth_36 (by decide) rfl ?_
          refine x_iinc F (nI (j + 1)) 4 [(4, .int (nI (j + 1))), (3, .int (nI d)), (0, .ref (ar 100)), (1, .int (nI s_)), (2, .int (nI k))] dX5_nth_37 rfl ((nI_add j 1)) (by decide) rfl ?_
          refine x_goto F 5 dX5_nth_40 (by decide) ?_
          refine x_lv [(0, .ref (ar 100)), (1, .int (nI s_)), (2, .int (nI k)), (3, .int (nI d)), (4, .int (nI (j + 1)))] [2, 3, 4, 1, 0] rfl ?_
          exact ih5 (j + 1) d (by unfold mvc; rw [if_neg (bz_0.mp h27)]; omega) (by omega)
        · refine x_iconst F (nI 1) dX5_nth_30 (by decide +kernel) ?_
          refine x_goto F 35 dX5_nth_31 (by decide) ?_
          refine x_isub F ((nI d) - (nI 1)) dX5_nth_35 rfl ?_
          obtain ⟨d2, hd2⟩ : ∃ d2, d2 + 1 = d := by first | exact ⟨d - 1, by omega⟩ | exact absurd h12 h27
          subst hd2
          refine x_top (nI d2) (nI_pred d2) ?_
          refine x_istore_n F [(3, .int (nI d2)), (0, .ref (ar 100)), (1, .int (nI s_)), (2, .int (nI k)), (4, .int (nI j))] dX5_nth_36 (by decide) rfl ?_
          refine x_iinc F (nI (j + 1)) 4 [(4, .int (nI (j + 1))), (3, .int (nI d2)), (0, .ref (ar 100)), (1, .int (nI s_)), (2, .int (nI k))] dX5_nth_37 rfl ((nI_add j 1)) (by decide) rfl ?_
          refine x_goto F 5 dX5_nth_40 (by decide) ?_
          refine x_lv [(0, .ref (ar 100)), (1, .int (nI s_)), (2, .int (nI k)), (3, .int (nI d2)), (4, .int (nI (j + 1)))] [2, 3, 4, 1, 0] rfl ?_
          exact ih5 (j + 1) d2 (by unfold mvc; rw [if_pos (bz_n0.mp h27)]; omega) (by omega)
      · refine x_iload_n F 3 dX5_nth_15 rfl ?_
        refine x_if_le F 43 dX5_nth_16 (by decide) (fun h16 => ?_) (fun h16 => ?_)
        · have h16n : d ≤ 0 := (nI_leI (by omega) (by decide)).mp (by rw [nI_0]; exact h16)
          refine x_iload F 4 dX5_nth_43 rfl ?_
          exact x_iret F () (⟨j, rfl, hj16, bz_n0.mp h12, by omega⟩) (rfl) (by omega) (by omega) dX5_nth_45
        · have h16n : ¬ d ≤ 0 := fun z => h16 (by have w := ((nI_leI (by omega) (by decide)).mpr z); rw [nI_0] at w; exact w)
          refine x_iload_n F 3 dX5_nth_19 rfl ?_
          refine x_aload_n F 0 dX5_nth_20 rfl ?_
          refine x_iload_n F 1 dX5_nth_21 rfl ?_
          refine x_iload F 4 dX5_nth_22 rfl ?_
          refine x_callVr F [.int (nI d)] [0, 1, 2, 3, 4, 5, 6, 7, 8, 9, 10, 11, 12, 13, 14, 15, 16, 17, 18, 19, 20, 21, 22, 23, 24, 25] (c_X5_isFree l D cA ar M s_ j hs (by omega)) mwX5_isFree wmX5_156 rfl (q0 := 0) rfl rfl rfl (Nat.le_of_ble_eq_true rfl) ⟨by decide, by decide⟩ ⟨by show _ ≤ 0; omega, by show _ ≤ 0; omega⟩ rfl (by decide) dX5_nth_24 (fun r5 hp6 => ?_)
          subst hp6
          refine x_if_eq F 34 dX5_nth_27 (by decide) (fun h27 => ?_) (fun h27 => ?_)
          · refine x_iconst F (nI 0) dX5_nth_34 (by decide +kernel) ?_
            refine x_isub F ((nI d) - (nI 0)) dX5_nth_35 rfl ?_
            refine x_top (nI d) (by rw [show nI 0 = (0 : Int32) from nI_0]; exact Int32.sub_zero _) ?_
            refine x_istore_n F [(3, .int (nI d)), (0, .ref (ar 100)), (1, .int (nI s_)), (2, .int (nI k)), (4, .int (nI j))] dX5_nth_36 (by decide) rfl ?_
            refine x_iinc F (nI (j + 1)) 4 [(4, .int (nI (j + 1))), (3, .int (nI d)), (0, .ref (ar 100)), (1, .int (nI s_)), (2, .int (nI k))] dX5_nth_37 rfl ((nI_add j 1)) (by decide) rfl ?_
            refine x_goto F 5 dX5_nth_40 (by decide) ?_
            refine x_lv [(0, .ref (ar 100)), (1, .int (nI s_)), (2, .int (nI k)), (3, .int (nI d)), (4, .int (nI (j + 1)))] [2, 3, 4, 1, 0] rfl ?_
            exact ih5 (j + 1) d (by unfold mvc; rw [if_neg (bz_0.mp h27)]; omega) (by omega)
          · refine x_iconst F (nI 1) dX5_nth_30 (by decide +kernel) ?_
            refine x_goto F 35 dX5_nth_31 (by decide) ?_
            refine x_isub F ((nI d) - (nI 1)) dX5_nth_35 rfl ?_
            obtain ⟨d2, hd2⟩ : ∃ d2, d2 + 1 = d := by first | exact ⟨d - 1, by omega⟩ | exact absurd h12 h27
            subst hd2
            refine x_top (nI d2) (nI_pred d2) ?_
            refine x_istore_n F [(3, .int (nI d2)), (0, .ref (ar 100)), (1, .int (nI s_)), (2, .int (nI k)), (4, .int (nI j))] dX5_nth_36 (by decide) rfl ?_
            refine x_iinc F (nI (j + 1)) 4 [(4, .int (nI (j + 1))), (3, .int (nI d2)), (0, .ref (ar 100)), (1, .int (nI s_)), (2, .int (nI k))] dX5_nth_37 rfl ((nI_add j 1)) (by decide) rfl ?_
            refine x_goto F 5 dX5_nth_40 (by decide) ?_
            refine x_lv [(0, .ref (ar 100)), (1, .int (nI s_)), (2, .int (nI k)), (3, .int (nI d2)), (4, .int (nI (j + 1)))] [2, 3, 4, 1, 0] rfl ?_
            exact ih5 (j + 1) d2 (by unfold mvc; rw [if_pos (bz_n0.mp h27)]; omega) (by omega)
  exact loop5 _ 0 k (by unfold mvc; omega) (Nat.lt_succ_self _)

