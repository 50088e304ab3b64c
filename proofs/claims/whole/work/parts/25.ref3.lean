/-! the reference: catching up, attempts -/
set_option maxHeartbeats 4000000 in
set_option maxRecDepth 100000 in
theorem c_X5_catchUp (l : Launch) (D : va_G) (cA : Nat → ClassId) (ar : Nat → Nat) (M : Nat → Nat → Int32) (s_ n k cnt L : Nat) (hs : s_ < 3) (hk : M 18 s_ = nI k) (hkc : k ≤ cnt) (hnc : n ≤ cnt) (hcn : cnt ≤ 120) (hwf : ∀ i, i < cnt → wfE (logR M) i) (hl : M 21 s_ = nI L) (hL : L ≤ 8) : Cg l D cA yX5_catchUp cX5_catchUp 7 (some .int) 3 0 0 ([.ref (ar 100), .int (nI s_), .int (nI n)] : List Value) (wR cA ar M) (fun (r : Option Value) (u : Nat → Nat → Int32) => r = some (.int (nI (n - k))) ∧ u = if n ≤ k then M else catR M s_ k n L) (fun u : Nat → Nat → Int32 => wR cA ar u) := by
  refine x_met (by decide +kernel) rfl (Nat.le_of_ble_eq_true rfl) ?_
  intro xp xe xs xm xbl xme xco F hnm
  refine x_lv [(0, .ref (ar 100)), (1, .int (nI s_)), (2, .int (nI n))] [0, 1, 2] rfl ?_
  refine x_aload_n F 0 dX5_catchUp_0 rfl ?_
  refine x_get F inUX5 0 18 rfl rfl (by decide) wfX5_50 rfl dX5_catchUp_1 ?_
  refine x_iload_n F 1 dX5_catchUp_4 rfl ?_
  refine x_iald F 14 (k := s_) rfl (by omega) (by decide) dX5_catchUp_5 ?_
  refine x_top (nI k) (hk) ?_
  refine x_istore_n F [(3, .int (nI k)), (0, .ref (ar 100)), (1, .int (nI s_)), (2, .int (nI n))] dX5_catchUp_6 (by decide) rfl ?_
  refine x_lv [(0, .ref (ar 100)), (1, .int (nI s_)), (2, .int (nI n)), (3, .int (nI k))] [1, 2, 3, 0] rfl ?_
  have loop7 : ∀ (nn7 : Nat) (c : Nat) (A : Nat → Nat → Int32), (k + c ≤ n ∨ c = 0) → (A = cuR s_ k c M) → (n - (k + c) < nn7) → Wx xp l xe (rmL 3 0 0) xs xm ([.ref (ar 100), .int (nI s_), .int (nI n)] : List Value).toArray xbl xme xco 0 0 (xQ xbl D (wR cA ar M) xs ([.ref (ar 100), .int (nI s_), .int (nI n)] : List Value).toArray 0 0 (fun (r : Option Value) (u : Nat → Nat → Int32) => r = some (.int (nI (n - k))) ∧ u = if n ≤ k then M else catR M s_ k n L) (fun u : Nat → Nat → Int32 => wR cA ar u)) 7 D (va_A (wR cA ar M) xs.heap.size) 7 [(0, .ref (ar 100)), (1, .int (nI s_)), (2, .int (nI n)), (3, .int (nI k))] [] (wR cA ar A) := by
    intro nn7
    induction nn7 with
    | zero =>
      intro c A hcc eA hm7
      exact absurd hm7 (Nat.not_lt_zero _)
    | succ nn7 ih7 =>
      intro c A hcc eA hm7
      refine x_aload_n F 0 dX5_catchUp_7 rfl ?_
      have hA : A 18 s_ = nI (k + c) := by rw [eA]; exact cuR_18 _ _ _ _ hk
      refine x_get F inUX5 0 18 rfl rfl (by decide) wfX5_50 rfl dX5_catchUp_8 ?_
      refine x_iload_n F 1 dX5_catchUp_11 rfl ?_
      refine x_iald F 14 (k := s_) rfl (by omega) (by decide) dX5_catchUp_12 ?_
      refine x_top (nI (k + c)) (hA) ?_
      refine x_iload_n F 2 dX5_catchUp_13 rfl ?_
      refine x_icmp_ge F 129 dX5_catchUp_14 (by decide) (fun h14 => ?_) (fun h14 => ?_)
      · have h14n : n ≤ (k + c) := (nI_leI (by omega) (by omega)).mp h14
        have hout : n ≤ k + c := by omega
        refine x_aload_n F 0 dX5_catchUp_129 rfl ?_
        refine x_get F inUX5 0 18 rfl rfl (by decide) wfX5_50 rfl dX5_catchUp_130 ?_
        refine x_iload_n F 1 dX5_catchUp_133 rfl ?_
        refine x_iald F 14 (k := s_) rfl (by omega) (by decide) dX5_catchUp_134 ?_
        refine x_top (nI (k + c)) (hA) ?_
        refine x_iload_n F 3 dX5_catchUp_135 rfl ?_
        refine x_icmp_le F 149 dX5_catchUp_136 (by decide) (fun h136 => ?_) (fun h136 => ?_)
        · have h136n : (k + c) ≤ k := (nI_leI (by omega) (by omega)).mp h136
          obtain rfl : 0 = c := by omega
          have hnk : n ≤ k := by omega
          refine x_aload_n F 0 dX5_catchUp_149 rfl ?_
          refine x_get F inUX5 0 18 rfl rfl (by decide) wfX5_50 rfl dX5_catchUp_150 ?_
          refine x_iload_n F 1 dX5_catchUp_153 rfl ?_
          refine x_iald F 14 (k := s_) rfl (by omega) (by decide) dX5_catchUp_154 ?_
          refine x_top (nI (k + 0)) (hA) ?_
          refine x_iload_n F 3 dX5_catchUp_155 rfl ?_
          refine x_isub F ((nI (k + 0)) - (nI k)) dX5_catchUp_156 rfl ?_
          refine x_top (nI (n - k)) (by rw [Nat.add_zero, show n - k = 0 by omega, pk_sub (Nat.le_refl _), Nat.sub_self]) ?_
          exact x_iret F A (⟨rfl, by rw [if_pos hnk]; exact eA⟩) (rfl) (by omega) (by omega) dX5_catchUp_157
        · have h136n : ¬ (k + c) ≤ k := fun z => h136 ((nI_leI (by omega) (by omega)).mpr z)
          have hnk : ¬ n ≤ k := by omega
          obtain rfl : n - k = c := by omega
          refine x_aload_n F 0 dX5_catchUp_139 rfl ?_
          refine x_iload_n F 1 dX5_catchUp_140 rfl ?_
          refine x_callV F [] ([]) [0, 1, 2, 3, 4, 5, 6, 7, 8, 9, 10, 11, 12, 13, 14, 15, 16, 17, 18, 19, 20, 21, 22, 23, 24, 25] [] (c_X5_keepBest l D cA ar A s_ hs) mwX5_keepBest wmX5_146 rfl (q0 := 0) rfl rfl rfl (Nat.le_of_ble_eq_true rfl) ⟨by decide, by decide⟩ ⟨by show _ ≤ 0; omega, by show _ ≤ 0; omega⟩ rfl rfl (by decide) (by decide) (by decide) dX5_catchUp_141 (fun r1 u2 hp3 => ?_)
          obtain ⟨rfl, rfl⟩ := hp3
          refine x_aload_n F 0 dX5_catchUp_144 rfl ?_
          refine x_iload_n F 1 dX5_catchUp_145 rfl ?_
          refine x_callV F [] ([]) [0, 1, 2, 3, 4, 5, 6, 7, 8, 9, 10, 11, 12, 13, 14, 15, 16, 17, 18, 19, 20, 21, 22, 23, 24, 25] [] (c_X5_fillLate l D cA ar (kbR A s_) s_ L hs (by rw [kbR_o _ _ _ (by decide) (by decide) (by decide) (by decide), eA, cuR_o _ _ _ _ _ (Or.inr (by decide)) (by decide) (by decide)]; exact hl) hL) mwX5_fillLate wmX5_132 rfl (q0 := 0) rfl rfl rfl (Nat.le_of_ble_eq_true rfl) ⟨by decide, by decide⟩ ⟨by show _ ≤ 0; omega, by show _ ≤ 0; omega⟩ rfl rfl (by decide) (by decide) (by decide) dX5_catchUp_146 (fun r4 u5 hp6 => ?_)
          obtain ⟨rfl, rfl⟩ := hp6
          refine x_aload_n F 0 dX5_catchUp_149 rfl ?_
          refine x_get F inUX5 0 18 rfl rfl (by decide) wfX5_50 rfl dX5_catchUp_150 ?_
          refine x_iload_n F 1 dX5_catchUp_153 rfl ?_
          refine x_iald F 14 (k := s_) rfl (by omega) (by decide) dX5_catchUp_154 ?_
          refine x_top (nI (k + (n - k))) (by unfold flR; rw [flI_o _ _ _ _ _ _ (by decide) (by decide), jdg_o _ _ _ _ _ (by decide) (by decide), kbR_o _ _ _ (by decide) (by decide) (by decide) (by decide)]; exact hA) ?_
          refine x_iload_n F 3 dX5_catchUp_155 rfl ?_
          refine x_isub F ((nI (k + (n - k))) - (nI k)) dX5_catchUp_156 rfl ?_
          refine x_top (nI (n - k)) (by rw [pk_sub (by omega), show k + (n - k) - k = n - k by omega]) ?_
          exact x_iret F (flR (kbR A s_) s_ L) (⟨rfl, by rw [if_neg hnk, eA]; rfl⟩) (rfl) (by omega) (by omega) dX5_catchUp_157
      · have h14n : ¬ n ≤ (k + c) := fun z => h14 ((nI_leI (by omega) (by omega)).mpr z)
        obtain ⟨kk, w, ek, ew, hk8, h3, hn3, -, -, -⟩ : wfE (logR A) (k + c) := wfE_log (fun x hx => by rw [eA, cuR_o _ _ _ _ _ (Or.inl hx) (by omega) (by omega)]) (hwf _ (by omega))
        have ek : A 1 (k + c) = nI kk := ek
        have ew : A 2 (k + c) = nI w := ew
        have hw16 : w < 16 := by
          by_cases h : kk = 3
          · have := (h3 h).1; omega
          · exact hn3 h
        have ewc : (A 2 (k + c)).toNatClampNeg = w := by rw [ew]; exact nI_clamp (by omega)
        refine x_aload_n F 0 dX5_catchUp_17 rfl ?_
        refine x_get F inUX5 0 18 rfl rfl (by decide) wfX5_50 rfl dX5_catchUp_18 ?_
        refine x_iload_n F 1 dX5_catchUp_21 rfl ?_
        refine x_iald F 14 (k := s_) rfl (by omega) (by decide) dX5_catchUp_22 ?_
        refine x_top (nI (k + c)) (hA) ?_
        refine x_istore F [(4, .int (nI (k + c))), (0, .ref (ar 100)), (1, .int (nI s_)), (2, .int (nI n)), (3, .int (nI k))] dX5_catchUp_23 (by decide) rfl ?_
        refine x_aload_n F 1 dX5_catchUp_25 rfl ?_
        refine x_iload_n F 2 dX5_catchUp_26 rfl ?_
        refine x_iload F 0 dX5_catchUp_27 rfl ?_
        refine x_callV F [] ([]) [0, 1, 2, 3, 4, 5, 6, 7, 8, 9, 10, 11, 12, 13, 14, 15, 16, 17, 18, 19, 20, 21, 22, 23, 24, 25] [] (c_X5_apply l D cA ar A s_ (k + c) (by omega) (by omega) (wfE_log (fun x hx => by rw [eA, cuR_o _ _ _ _ _ (Or.inl hx) (by omega) (by omega)]) (hwf _ (by omega)))) mwX5_apply wmX5_94 rfl (q0 := 0) rfl rfl rfl (Nat.le_of_ble_eq_true rfl) ⟨by decide, by decide⟩ ⟨by show _ ≤ 0; omega, by show _ ≤ 0; omega⟩ rfl rfl (by decide) (by decide) (by decide) dX5_catchUp_29 (fun r7 u8 hp9 => ?_)
        obtain ⟨rfl, rfl⟩ := hp9
        refine x_aload_n F 1 dX5_catchUp_32 rfl ?_
        refine x_get F inUX5 0 18 rfl rfl (by decide) wfX5_50 rfl dX5_catchUp_33 ?_
        refine x_iload_n F 2 dX5_catchUp_36 rfl ?_
        refine x_dup2 F dX5_catchUp_37 rfl rfl ?_
        refine x_iald F 14 (k := s_) rfl (by omega) (by decide) dX5_catchUp_38 ?_
        refine x_top (nI (k + c)) (by rw [apR_o _ _ _ _ (Or.inr (by decide))]; exact hA) ?_
        refine x_iconst F (nI 1) dX5_catchUp_39 (by decide +kernel) ?_
        refine x_iadd F (nI ((k + c) + 1)) dX5_catchUp_40 (nI_add _ _) ?_
        refine x_iast F 14 (k := s_) (wR cA ar (st2 (apR A s_ (k + c)) 18 s_ (nI ((k + c) + 1)))) rfl (by omega) (by decide) rfl dX5_catchUp_41 ?_
        refine x_aload_n F 1 dX5_catchUp_42 rfl ?_
        refine x_get F inUX5 0 2 rfl rfl (by decide) wfX5_13 rfl dX5_catchUp_43 ?_
        refine x_iload F 0 dX5_catchUp_46 rfl ?_
        refine x_iald F 2 (k := k + c) rfl (by omega) (by decide) dX5_catchUp_48 ?_
        refine x_top (nI w) (by show apR A s_ (k + c) 2 (k + c) = _; rw [apR_o _ _ _ _ (Or.inl (by decide))]; exact ew) ?_
        refine x_istore F [(5, .int (nI w)), (4, .int (nI (k + c))), (0, .ref (ar 100)), (1, .int (nI s_)), (2, .int (nI n)), (3, .int (nI k))] dX5_catchUp_49 (by decide) rfl ?_
        refine x_aload_n F 2 dX5_catchUp_51 rfl ?_
        refine x_get F inUX5 0 1 rfl rfl (by decide) wfX5_7 rfl dX5_catchUp_52 ?_
        refine x_iload F 1 dX5_catchUp_55 rfl ?_
        refine x_iald F 1 (k := k + c) rfl (by omega) (by decide) dX5_catchUp_57 ?_
        refine x_top (nI kk) (by show apR A s_ (k + c) 1 (k + c) = _; rw [apR_o _ _ _ _ (Or.inl (by decide))]; exact ek) ?_
        refine x_if_eq F 73 dX5_catchUp_58 (by decide) (fun h58 => ?_) (fun h58 => ?_)
        · have h58n : kk = 0 := (nI_eq (by omega) (by decide)).mp (h58.trans nI_0.symm)
          refine x_aload_n F 2 dX5_catchUp_73 rfl ?_
          refine x_get F inUX5 0 1 rfl rfl (by decide) wfX5_7 rfl dX5_catchUp_74 ?_
          refine x_iload F 1 dX5_catchUp_77 rfl ?_
          refine x_iald F 1 (k := k + c) rfl (by omega) (by decide) dX5_catchUp_79 ?_
          refine x_top (nI kk) (by show apR A s_ (k + c) 1 (k + c) = _; rw [apR_o _ _ _ _ (Or.inl (by decide))]; exact ek) ?_
          refine x_if_ne F 87 dX5_catchUp_80 (by decide) (fun h80 => ?_) (fun h80 => ?_)
          · have h80n : ¬ kk = 0 := fun z => h80 (((nI_eq (by omega) (by decide)).mpr z).trans nI_0)
            exact absurd h58n h80n
          · have h80n : kk = 0 := (nI_eq (by omega) (by decide)).mp (h80.trans nI_0.symm)
            refine x_iconst F (-1) dX5_catchUp_83 (by decide +kernel) ?_
            refine x_goto F 94 dX5_catchUp_84 (by decide) ?_
            refine x_istore F [(6, .int (-1)), (5, .int (nI w)), (4, .int (nI (k + c))), (0, .ref (ar 100)), (1, .int (nI s_)), (2, .int (nI n)), (3, .int (nI k))] dX5_catchUp_94 (by decide) rfl ?_
            refine x_aload_n F 3 dX5_catchUp_96 rfl ?_
            refine x_get F inUX5 0 14 rfl rfl (by decide) wfX5_47 rfl dX5_catchUp_97 ?_
            refine x_bipush F (nI 16) dX5_catchUp_100 (by decide +kernel) ?_
            refine x_iload_n F 4 dX5_catchUp_102 rfl ?_
            refine x_imul F (nI (16 * s_)) dX5_catchUp_103 (pk_mul _ _) ?_
            refine x_iload F 1 dX5_catchUp_104 rfl ?_
            refine x_iadd F (nI ((16 * s_) + w)) dX5_catchUp_106 (nI_add _ _) ?_
            refine x_iload F 0 dX5_catchUp_107 rfl ?_
            refine x_iast F 13 (k := (16 * s_) + w) (wR cA ar (st2 (st2 (apR A s_ (k + c)) 18 s_ (nI ((k + c) + 1))) 14 ((16 * s_) + w) (-1))) rfl (by omega) (by decide) rfl dX5_catchUp_109 ?_
            refine x_aload_n F 3 dX5_catchUp_110 rfl ?_
            refine x_get F inUX5 0 14 rfl rfl (by decide) wfX5_47 rfl dX5_catchUp_111 ?_
            refine x_bipush F (nI 16) dX5_catchUp_114 (by decide +kernel) ?_
            refine x_iconst F (nI 3) dX5_catchUp_116 (by decide +kernel) ?_
            refine x_iload_n F 4 dX5_catchUp_117 rfl ?_
            refine x_iadd F (nI (3 + s_)) dX5_catchUp_118 (nI_add _ _) ?_
            refine x_imul F (nI (16 * (3 + s_))) dX5_catchUp_119 (pk_mul _ _) ?_
            refine x_iload F 1 dX5_catchUp_120 rfl ?_
            refine x_iadd F (nI ((16 * (3 + s_)) + w)) dX5_catchUp_122 (nI_add _ _) ?_
            refine x_iload F 0 dX5_catchUp_123 rfl ?_
            refine x_iast F 13 (k := (16 * (3 + s_)) + w) (wR cA ar (st2 (st2 (st2 (apR A s_ (k + c)) 18 s_ (nI ((k + c) + 1))) 14 ((16 * s_) + w) (-1)) 14 ((16 * (3 + s_)) + w) (-1))) rfl (by omega) (by decide) rfl dX5_catchUp_125 ?_
            refine x_goto F 7 dX5_catchUp_126 (by decide) ?_
            have ec2 : (st2 (st2 (st2 (apR A s_ (k + c)) 18 s_ (nI ((k + c) + 1))) 14 ((16 * s_) + w) (-1)) 14 ((16 * (3 + s_)) + w) (-1)) = cuI A s_ (k + c) := by unfold cuI; rw [ewc, if_pos (by rw [ek, h58n])]
            refine x_lv [(0, .ref (ar 100)), (1, .int (nI s_)), (2, .int (nI n)), (3, .int (nI k))] [3, 4, 5, 6] rfl ?_
            exact ih7 (c + 1) (st2 (st2 (st2 (apR A s_ (k + c)) 18 s_ (nI ((k + c) + 1))) 14 ((16 * s_) + w) (-1)) 14 ((16 * (3 + s_)) + w) (-1)) (by omega) (by rw [ec2, eA]; rfl) (by omega)
        · have h58n : ¬ kk = 0 := fun z => h58 (((nI_eq (by omega) (by decide)).mpr z).trans nI_0)
          refine x_aload_n F 2 dX5_catchUp_61 rfl ?_
          refine x_get F inUX5 0 1 rfl rfl (by decide) wfX5_7 rfl dX5_catchUp_62 ?_
          refine x_iload F 1 dX5_catchUp_65 rfl ?_
          refine x_iald F 1 (k := k + c) rfl (by omega) (by decide) dX5_catchUp_67 ?_
          refine x_top (nI kk) (by show apR A s_ (k + c) 1 (k + c) = _; rw [apR_o _ _ _ _ (Or.inl (by decide))]; exact ek) ?_
          refine x_bipush F (nI 6) dX5_catchUp_68 (by decide +kernel) ?_
          refine x_icmp_ne F 126 dX5_catchUp_70 (by decide) (fun h70 => ?_) (fun h70 => ?_)
          · have h70n : ¬ kk = 6 := fun z => h70 ((nI_eq (by omega) (by decide)).mpr z)
            refine x_goto F 7 dX5_catchUp_126 (by decide) ?_
            have ec2 : (st2 (apR A s_ (k + c)) 18 s_ (nI ((k + c) + 1))) = cuI A s_ (k + c) := by unfold cuI; rw [ewc, if_neg (by rw [ek]; exact fun z => h58n ((nI_eq (by omega) (by decide)).mp z)), if_neg (by rw [ek]; exact fun z => h70n ((nI_eq (by omega) (by decide)).mp z))]
            refine x_lv [(0, .ref (ar 100)), (1, .int (nI s_)), (2, .int (nI n)), (3, .int (nI k))] [2, 3, 4, 5] rfl ?_
            exact ih7 (c + 1) (st2 (apR A s_ (k + c)) 18 s_ (nI ((k + c) + 1))) (by omega) (by rw [ec2, eA]; rfl) (by omega)
          · have h70n : kk = 6 := (nI_eq (by omega) (by decide)).mp h70
            refine x_aload_n F 2 dX5_catchUp_73 rfl ?_
            refine x_get F inUX5 0 1 rfl rfl (by decide) wfX5_7 rfl dX5_catchUp_74 ?_
            refine x_iload F 1 dX5_catchUp_77 rfl ?_
            refine x_iald F 1 (k := k + c) rfl (by omega) (by decide) dX5_catchUp_79 ?_
            refine x_top (nI kk) (by show apR A s_ (k + c) 1 (k + c) = _; rw [apR_o _ _ _ _ (Or.inl (by decide))]; exact ek) ?_
            refine x_if_ne F 87 dX5_catchUp_80 (by decide) (fun h80 => ?_) (fun h80 => ?_)
            · have h80n : ¬ kk = 0 := fun z => h80 (((nI_eq (by omega) (by decide)).mpr z).trans nI_0)
              refine x_aload_n F 2 dX5_catchUp_87 rfl ?_
              refine x_get F inUX5 0 3 rfl rfl (by decide) wfX5_16 rfl dX5_catchUp_88 ?_
              refine x_iload F 1 dX5_catchUp_91 rfl ?_
              refine x_iald F 3 (k := k + c) rfl (by omega) (by decide) dX5_catchUp_93 ?_
              refine x_top (A 3 (k + c)) (by show apR A s_ (k + c) 3 (k + c) = _; rw [apR_o _ _ _ _ (Or.inl (by decide))]) ?_
              refine x_istore F [(6, .int (A 3 (k + c))), (5, .int (nI w)), (4, .int (nI (k + c))), (0, .ref (ar 100)), (1, .int (nI s_)), (2, .int (nI n)), (3, .int (nI k))] dX5_catchUp_94 (by decide) rfl ?_
              refine x_aload_n F 3 dX5_catchUp_96 rfl ?_
              refine x_get F inUX5 0 14 rfl rfl (by decide) wfX5_47 rfl dX5_catchUp_97 ?_
              refine x_bipush F (nI 16) dX5_catchUp_100 (by decide +kernel) ?_
              refine x_iload_n F 4 dX5_catchUp_102 rfl ?_
              refine x_imul F (nI (16 * s_)) dX5_catchUp_103 (pk_mul _ _) ?_
              refine x_iload F 1 dX5_catchUp_104 rfl ?_
              refine x_iadd F (nI ((16 * s_) + w)) dX5_catchUp_106 (nI_add _ _) ?_
              refine x_iload F 0 dX5_catchUp_107 rfl ?_
              refine x_iast F 13 (k := (16 * s_) + w) (wR cA ar (st2 (st2 (apR A s_ (k + c)) 18 s_ (nI ((k + c) + 1))) 14 ((16 * s_) + w) (A 3 (k + c)))) rfl (by omega) (by decide) rfl dX5_catchUp_109 ?_
              refine x_aload_n F 3 dX5_catchUp_110 rfl ?_
              refine x_get F inUX5 0 14 rfl rfl (by decide) wfX5_47 rfl dX5_catchUp_111 ?_
              refine x_bipush F (nI 16) dX5_catchUp_114 (by decide +kernel) ?_
              refine x_iconst F (nI 3) dX5_catchUp_116 (by decide +kernel) ?_
              refine x_iload_n F 4 dX5_catchUp_117 rfl ?_
              refine x_iadd F (nI (3 + s_)) dX5_catchUp_118 (nI_add _ _) ?_
              refine x_imul F (nI (16 * (3 + s_))) dX5_catchUp_119 (pk_mul _ _) ?_
              refine x_iload F 1 dX5_catchUp_120 rfl ?_
              refine x_iadd F (nI ((16 * (3 + s_)) + w)) dX5_catchUp_122 (nI_add _ _) ?_
              refine x_iload F 0 dX5_catchUp_123 rfl ?_
              refine x_iast F 13 (k := (16 * (3 + s_)) + w) (wR cA ar (st2 (st2 (st2 (apR A s_ (k + c)) 18 s_ (nI ((k + c) + 1))) 14 ((16 * s_) + w) (A 3 (k + c))) 14 ((16 * (3 + s_)) + w) (A 3 (k + c)))) rfl (by omega) (by decide) rfl dX5_catchUp_125 ?_
              refine x_goto F 7 dX5_catchUp_126 (by decide) ?_
              have ec2 : (st2 (st2 (st2 (apR A s_ (k + c)) 18 s_ (nI ((k + c) + 1))) 14 ((16 * s_) + w) (A 3 (k + c))) 14 ((16 * (3 + s_)) + w) (A 3 (k + c))) = cuI A s_ (k + c) := by unfold cuI; rw [ewc, if_neg (by rw [ek]; exact fun z => h58n ((nI_eq (by omega) (by decide)).mp z)), if_pos (by rw [ek, h70n])]
              refine x_lv [(0, .ref (ar 100)), (1, .int (nI s_)), (2, .int (nI n)), (3, .int (nI k))] [3, 4, 5, 6] rfl ?_
              exact ih7 (c + 1) (st2 (st2 (st2 (apR A s_ (k + c)) 18 s_ (nI ((k + c) + 1))) 14 ((16 * s_) + w) (A 3 (k + c))) 14 ((16 * (3 + s_)) + w) (A 3 (k + c))) (by omega) (by rw [ec2, eA]; rfl) (by omega)
            · have h80n : kk = 0 := (nI_eq (by omega) (by decide)).mp (h80.trans nI_0.symm)
              exact absurd h80n h58n
  exact loop7 _ 0 M (Or.inr rfl) rfl (Nat.lt_succ_self _)

set_option maxHeartbeats 4000000 in
set_option maxRecDepth 100000 in
theorem c_X5_attempt (l : Launch) (D : va_G) (cA : Nat → ClassId) (ar : Nat → Nat) (M : Nat → Nat → Int32) (s_ t L : Nat) (hs : s_ < 3) (ht : M 19 s_ = nI t) (ht2 : t < 2 ^ 30) (hl : M 21 s_ = nI L) (hL0 : 0 < L) (hL : L ≤ 8) : Cg l D cA yX5_attempt cX5_attempt 8 none 2 0 0 ([.ref (ar 100), .int (nI s_)] : List Value) (wR cA ar M) (fun (r : Option Value) (u : Nat → Nat → Int32) => r = none ∧ u = atR M s_ (8 * s_ + t % L)) (fun u : Nat → Nat → Int32 => wR cA ar u) := by
  refine x_met (by decide +kernel) rfl (Nat.le_of_ble_eq_true rfl) ?_
  intro xp xe xs xm xbl xme xco F hnm
  refine x_lv [(0, .ref (ar 100)), (1, .int (nI s_))] [0, 1] rfl ?_
  refine x_aload_n F 0 dX5_attempt_0 rfl ?_
  refine x_get F inUX5 0 20 rfl rfl (by decide) wfX5_56 rfl dX5_attempt_1 ?_
  refine x_iload_n F 1 dX5_attempt_4 rfl ?_
  refine x_iald F 16 (k := s_) rfl (by omega) (by decide) dX5_attempt_5 ?_
  refine x_istore_n F [(2, .int (M 20 s_)), (0, .ref (ar 100)), (1, .int (nI s_))] dX5_attempt_6 (by decide) rfl ?_
  refine x_iconst F (nI 0) dX5_attempt_7 (by decide +kernel) ?_
  refine x_istore_n F [(3, .int (nI 0)), (2, .int (M 20 s_)), (0, .ref (ar 100)), (1, .int (nI s_))] dX5_attempt_8 (by decide) rfl ?_
  refine x_iconst F (nI 0) dX5_attempt_9 (by decide +kernel) ?_
  refine x_istore F [(4, .int (nI 0)), (3, .int (nI 0)), (2, .int (M 20 s_)), (0, .ref (ar 100)), (1, .int (nI s_))] dX5_attempt_10 (by decide) rfl ?_
  refine x_lv [(0, .ref (ar 100)), (1, .int (nI s_)), (2, .int (M 20 s_)), (3, .int (nI 0)), (4, .int (nI 0))] [3, 4, 2, 1, 0] rfl ?_
  have loop12 : ∀ (nn12 : Nat) (x : Nat) (y : Nat), (x ≤ 16) → (y = mvc (slc s_ M) x) → (16 - x < nn12) → Wx xp l xe (rmL 2 0 0) xs xm ([.ref (ar 100), .int (nI s_)] : List Value).toArray xbl xme xco 0 0 (xQ xbl D (wR cA ar M) xs ([.ref (ar 100), .int (nI s_)] : List Value).toArray 0 0 (fun (r : Option Value) (u : Nat → Nat → Int32) => r = none ∧ u = atR M s_ (8 * s_ + t % L)) (fun u : Nat → Nat → Int32 => wR cA ar u)) 8 D (va_A (wR cA ar M) xs.heap.size) 12 [(0, .ref (ar 100)), (1, .int (nI s_)), (2, .int (M 20 s_)), (3, .int (nI y)), (4, .int (nI x))] [] (wR cA ar M) := by
    intro nn12
    induction nn12 with
    | zero =>
      intro x y hx ex hm12
      exact absurd hm12 (Nat.not_lt_zero _)
    | succ nn12 ih12 =>
      intro x y hx ex hm12
      refine x_iload F 4 dX5_attempt_12 rfl ?_
      refine x_bipush F (nI 16) dX5_attempt_14 (by decide +kernel) ?_
      refine x_icmp_ge F 43 dX5_attempt_16 (by decide) (fun h16 => ?_) (fun h16 => ?_)
      · have h16n : 16 ≤ x := (nI_leI (by decide) (by omega)).mp h16
        obtain rfl : 16 = x := by omega
        subst ex
        have hmle := mvc_le (slc s_ M) 16
        refine x_iload_n F 3 dX5_attempt_43 rfl ?_
        refine x_if_ne F 48 dX5_attempt_44 (by decide) (fun h44 => ?_) (fun h44 => ?_)
        · have h44n : ¬ (mvc (slc s_ M) 16) = 0 := fun z => h44 (((nI_eq (by omega) (by decide)).mpr z).trans nI_0)
          have hm0 : 0 < mvc (slc s_ M) 16 := by omega
          have hc1 : mvc (slc s_ (cpR M s_ 6 16)) 16 = mvc (slc s_ M) 16 := mvc_cg rfl rfl 16
          refine x_aload_n F 0 dX5_attempt_48 rfl ?_
          refine x_iload_n F 1 dX5_attempt_49 rfl ?_
          refine x_bipush F (nI 6) dX5_attempt_50 (by decide +kernel) ?_
          refine x_callV F [] ([]) [0, 1, 2, 3, 4, 5, 6, 7, 8, 9, 10, 11, 12, 13, 14, 15, 16, 17, 18, 19, 20, 21, 22, 23, 24, 25] [] (c_X5_copyPlan l D cA ar M (s_) (6) (by omega) (by omega)) mwX5_copyPlan wmX5_143 rfl (q0 := 0) rfl rfl rfl (Nat.le_of_ble_eq_true rfl) ⟨by decide, by decide⟩ ⟨by show _ ≤ 0; omega, by show _ ≤ 0; omega⟩ rfl rfl (by decide) (by decide) (by decide) dX5_attempt_52 (fun r1 u2 hp3 => ?_)
          obtain ⟨rfl, rfl⟩ := hp3
          refine x_aload_n F 0 dX5_attempt_55 rfl ?_
          refine x_iload_n F 1 dX5_attempt_56 rfl ?_
          refine x_iload_n F 2 dX5_attempt_57 rfl ?_
          refine x_bipush F (nI 16) dX5_attempt_58 (by decide +kernel) ?_
          refine x_iushr F (((M 20 s_).toUInt32 >>> ((nI 16).toUInt32 &&& Int32.toUInt32 31)).toInt32) dX5_attempt_60 rfl ?_
          refine x_top (nI (unat (M 20 s_) 16)) (ush_eq _ 16 (by decide +kernel)) ?_
          refine x_iload_n F 3 dX5_attempt_61 rfl ?_
          refine x_irem F ((nI (unat (M 20 s_) 16)) - (nI (unat (M 20 s_) 16)) / (nI (mvc (slc s_ M) 16)) * (nI (mvc (slc s_ M) 16))) dX5_attempt_62 (nI_ne0 hm0 (by omega)) rfl ?_
          refine x_top (nI (unat (M 20 s_) 16 % (mvc (slc s_ M) 16))) (pk_rem (unat_lt _ (by decide)) hm0 (by omega)) ?_
          refine x_callVr F [] [0, 1, 2, 3, 4, 5, 6, 7, 8, 9, 10, 11, 12, 13, 14, 15, 16, 17, 18, 19, 20, 21, 22, 23, 24, 25] (c_X5_nth l D cA ar (cpR M s_ 6 16) s_ (unat (M 20 s_) 16 % (mvc (slc s_ M) 16)) (by omega) (by rw [hc1]; exact Nat.mod_lt _ hm0)) mwX5_nth wmX5_160 rfl (q0 := 0) rfl rfl rfl (Nat.le_of_ble_eq_true rfl) ⟨by decide, by decide⟩ ⟨by show _ ≤ 0; omega, by show _ ≤ 0; omega⟩ rfl (by decide) dX5_attempt_63 (fun r4 hp5 => ?_)
          obtain ⟨jx, rfl, hjx16, hjxf, hjxc⟩ := hp5
          have ejx : jth (slc s_ M) (unat (M 20 s_) 16 % (mvc (slc s_ M) 16)) = jx := jth_eq hjx16 hjxf ((mvc_cg (F := slc s_ M) (G := slc s_ (cpR M s_ 6 16)) rfl rfl jx).symm.trans hjxc)
          refine x_istore F [(4, .int (nI jx)), (0, .ref (ar 100)), (1, .int (nI s_)), (2, .int (M 20 s_)), (3, .int (nI (mvc (slc s_ M) 16)))] dX5_attempt_66 (by decide) rfl ?_
          refine x_iload_n F 3 dX5_attempt_68 rfl ?_
          refine x_bipush F (nI 8) dX5_attempt_69 (by decide +kernel) ?_
          refine x_iushr F (((M 20 s_).toUInt32 >>> ((nI 8).toUInt32 &&& Int32.toUInt32 31)).toInt32) dX5_attempt_71 rfl ?_
          refine x_top (nI (unat (M 20 s_) 8)) (ush_eq _ 8 (by decide +kernel)) ?_
          refine x_iconst F (nI 4) dX5_attempt_72 (by decide +kernel) ?_
          refine x_irem F ((nI (unat (M 20 s_) 8)) - (nI (unat (M 20 s_) 8)) / (nI 4) * (nI 4)) dX5_attempt_73 (by decide) rfl ?_
          refine x_top (nI (unat (M 20 s_) 8 % 4)) (pk_rem (unat_lt _ (by decide)) (by decide) (by decide)) ?_
          refine x_iconst F (nI 3) dX5_attempt_74 (by decide +kernel) ?_
          refine x_icmp_ne F 138 dX5_attempt_75 (by decide) (fun h75 => ?_) (fun h75 => ?_)
          · have h75n : ¬ (unat (M 20 s_) 8 % 4) = 3 := fun z => h75 ((nI_eq (by omega) (by decide)).mpr z)
            refine x_iload_n F 3 dX5_attempt_138 rfl ?_
            refine x_bipush F (nI 24) dX5_attempt_139 (by decide +kernel) ?_
            refine x_iushr F (((M 20 s_).toUInt32 >>> ((nI 24).toUInt32 &&& Int32.toUInt32 31)).toInt32) dX5_attempt_141 rfl ?_
            refine x_top (nI (unat (M 20 s_) 24)) (ush_eq _ 24 (by decide +kernel)) ?_
            refine x_bipush F (nI 7) dX5_attempt_142 (by decide +kernel) ?_
            refine x_irem F ((nI (unat (M 20 s_) 24)) - (nI (unat (M 20 s_) 24)) / (nI 7) * (nI 7)) dX5_attempt_144 (by decide) rfl ?_
            refine x_top (nI (unat (M 20 s_) 24 % 7)) (pk_rem (unat_lt _ (by decide)) (by decide) (by decide)) ?_
            refine x_istore F [(5, .int (nI (unat (M 20 s_) 24 % 7))), (4, .int (nI jx)), (0, .ref (ar 100)), (1, .int (nI s_)), (2, .int (M 20 s_)), (3, .int (nI (mvc (slc s_ M) 16)))] dX5_attempt_145 (by decide) rfl ?_
            refine x_aload_n F 2 dX5_attempt_147 rfl ?_
            refine x_get F inUX5 0 14 rfl rfl (by decide) wfX5_47 rfl dX5_attempt_148 ?_
            refine x_bipush F (nI 96) dX5_attempt_151 (by decide +kernel) ?_
            refine x_iload F 1 dX5_attempt_153 rfl ?_
            refine x_iadd F (nI (96 + jx)) dX5_attempt_155 (nI_add _ _) ?_
            refine x_iload F 0 dX5_attempt_156 rfl ?_
            refine x_bipush F (nI 6) dX5_attempt_158 (by decide +kernel) ?_
            refine x_icmp_ne F 167 dX5_attempt_160 (by decide) (fun h160 => ?_) (fun h160 => ?_)
            · have h160n : ¬ (unat (M 20 s_) 24 % 7) = 6 := fun z => h160 ((nI_eq (by omega) (by decide)).mpr z)
              refine x_iload F 0 dX5_attempt_167 rfl ?_
              refine x_iast F 13 (k := 96 + jx) (wR cA ar (st2 (cpR M (s_) (6) 16) 14 (96 + jx) (nI (unat (M 20 s_) 24 % 7)))) rfl (by omega) (by decide) rfl dX5_attempt_169 ?_
              have etr : (st2 (cpR M (s_) (6) 16) 14 (96 + jx) (nI (unat (M 20 s_) 24 % 7))) = trR M s_ := by unfold trR; rw [if_neg h75n, ejx, if_neg h160n]
              rw [etr]
              refine x_aload_n F 2 dX5_attempt_170 rfl ?_
              refine x_iload_n F 3 dX5_attempt_171 rfl ?_
              refine x_iload_n F 3 dX5_attempt_172 rfl ?_
              refine x_iload_n F 3 dX5_attempt_173 rfl ?_
              refine x_callV F [] ([]) [0, 1, 2, 3, 4, 5, 6, 7, 8, 9, 10, 11, 12, 13, 14, 15, 16, 17, 18, 19, 20, 21, 22, 23, 24, 25] [] (c_X5_judge l D cA ar (trR M s_) (s_) (s_) (s_) (by omega) (by omega) (by omega)) mwX5_judge wmX5_135 rfl (q0 := 0) rfl rfl rfl (Nat.le_of_ble_eq_true rfl) ⟨by decide, by decide⟩ ⟨by show _ ≤ 0; omega, by show _ ≤ 0; omega⟩ rfl rfl (by decide) (by decide) (by decide) dX5_attempt_174 (fun r6 u7 hp8 => ?_)
              obtain ⟨rfl, rfl⟩ := hp8
              refine x_aload_n F 2 dX5_attempt_177 rfl ?_
              refine x_get F inUX5 0 15 rfl rfl (by decide) wfX5_119 rfl dX5_attempt_178 ?_
              refine x_top (hdR (trR M s_) s_ s_ s_ 16) (rfl) ?_
              refine x_istore F [(5, .int (hdR (trR M s_) s_ s_ s_ 16)), (4, .int (nI jx)), (0, .ref (ar 100)), (1, .int (nI s_)), (2, .int (M 20 s_)), (3, .int (nI (mvc (slc s_ M) 16)))] dX5_attempt_181 (by decide) rfl ?_
              refine x_aload_n F 2 dX5_attempt_183 rfl ?_
              refine x_get F inUX5 0 16 rfl rfl (by decide) wfX5_122 rfl dX5_attempt_184 ?_
              refine x_top (sfR (trR M s_) s_ s_ s_ 16) (rfl) ?_
              refine x_istore F [(6, .int (sfR (trR M s_) s_ s_ s_ 16)), (5, .int (hdR (trR M s_) s_ s_ s_ 16)), (4, .int (nI jx)), (0, .ref (ar 100)), (1, .int (nI s_)), (2, .int (M 20 s_)), (3, .int (nI (mvc (slc s_ M) 16)))] dX5_attempt_187 (by decide) rfl ?_
              refine x_aload_n F 3 dX5_attempt_189 rfl ?_
              refine x_bipush F (nI 6) dX5_attempt_190 (by decide +kernel) ?_
              refine x_iload_n F 4 dX5_attempt_192 rfl ?_
              refine x_iload_n F 4 dX5_attempt_193 rfl ?_
              refine x_callV F [] ([]) [0, 1, 2, 3, 4, 5, 6, 7, 8, 9, 10, 11, 12, 13, 14, 15, 16, 17, 18, 19, 20, 21, 22, 23, 24, 25] [] (c_X5_judge l D cA ar (jdg (trR M s_) (s_) (s_) (s_)) (6) (s_) (s_) (by omega) (by omega) (by omega)) mwX5_judge wmX5_135 rfl (q0 := 0) rfl rfl rfl (Nat.le_of_ble_eq_true rfl) ⟨by decide, by decide⟩ ⟨by show _ ≤ 0; omega, by show _ ≤ 0; omega⟩ rfl rfl (by decide) (by decide) (by decide) dX5_attempt_194 (fun r9 u10 hp11 => ?_)
              obtain ⟨rfl, rfl⟩ := hp11
              rw [jdg_jdg]
              refine x_bipush F (nI 8) dX5_attempt_197 (by decide +kernel) ?_
              refine x_iload_n F 4 dX5_attempt_199 rfl ?_
              refine x_imul F (nI (8 * s_)) dX5_attempt_200 (pk_mul _ _) ?_
              refine x_aload_n F 3 dX5_attempt_201 rfl ?_
              refine x_get F inUX5 0 19 rfl rfl (by decide) wfX5_53 rfl dX5_attempt_202 ?_
              refine x_iload_n F 4 dX5_attempt_205 rfl ?_
              refine x_iald F 15 (k := s_) rfl (by omega) (by decide) dX5_attempt_206 ?_
              refine x_top (nI t) (by rw [jdg_o _ _ _ _ _ (by decide) (by decide), trR_o _ _ _ (by decide)]; exact ht) ?_
              refine x_aload_n F 3 dX5_attempt_207 rfl ?_
              refine x_get F inUX5 0 21 rfl rfl (by decide) wfX5_59 rfl dX5_attempt_208 ?_
              refine x_iload_n F 4 dX5_attempt_211 rfl ?_
              refine x_iald F 17 (k := s_) rfl (by omega) (by decide) dX5_attempt_212 ?_
              refine x_top (nI L) (by rw [jdg_o _ _ _ _ _ (by decide) (by decide), trR_o _ _ _ (by decide)]; exact hl) ?_
              refine x_irem F ((nI t) - (nI t) / (nI L) * (nI L)) dX5_attempt_213 (nI_ne0 hL0 (by omega)) rfl ?_
              refine x_top (nI (t % L)) (pk_rem (by omega) hL0 (by omega)) ?_
              have htl := Nat.mod_lt t hL0
              refine x_iadd F (nI ((8 * s_) + (t % L))) dX5_attempt_214 (nI_add _ _) ?_
              refine x_istore F [(7, .int (nI ((8 * s_) + (t % L)))), (6, .int (sfR (trR M s_) s_ s_ s_ 16)), (5, .int (hdR (trR M s_) s_ s_ s_ 16)), (4, .int (nI jx)), (0, .ref (ar 100)), (1, .int (nI s_)), (2, .int (M 20 s_)), (3, .int (nI (mvc (slc s_ M) 16)))] dX5_attempt_215 (by decide) rfl ?_
              refine x_iload F 2 dX5_attempt_217 rfl ?_
              refine x_iload F 1 dX5_attempt_219 rfl ?_
              refine x_aload_n F 4 dX5_attempt_221 rfl ?_
              refine x_get F inUX5 0 15 rfl rfl (by decide) wfX5_119 rfl dX5_attempt_222 ?_
              refine x_top (hdR (trR M s_) 6 s_ s_ 16) (rfl) ?_
              refine x_aload_n F 4 dX5_attempt_225 rfl ?_
              refine x_get F inUX5 0 16 rfl rfl (by decide) wfX5_122 rfl dX5_attempt_226 ?_
              refine x_top (sfR (trR M s_) 6 s_ s_ 16) (rfl) ?_
              refine x_callSr F [] [] (c_X5_isBetter l D cA (hdR (trR M s_) s_ s_ s_ 16) (sfR (trR M s_) s_ s_ s_ 16) (hdR (trR M s_) 6 s_ s_ 16) (sfR (trR M s_) 6 s_ s_ 16)) mwX5_isBetter wmX5_139 rfl rfl (Nat.le_of_ble_eq_true rfl) ⟨by decide, by decide⟩ ⟨by show _ ≤ 0; omega, by show _ ≤ 0; omega⟩ rfl (by decide) dX5_attempt_229 (fun r12 hp13 => ?_)
              subst hp13
              refine x_if_eq F 263 dX5_attempt_232 (by decide) (fun h232 => ?_) (fun h232 => ?_)
              · refine x_aload_n F 4 dX5_attempt_263 rfl ?_
                refine x_bipush F (nI 6) dX5_attempt_264 (by decide +kernel) ?_
                refine x_iload_n F 5 dX5_attempt_266 rfl ?_
                refine x_callV F [] ([]) [0, 1, 2, 3, 4, 5, 6, 7, 8, 9, 10, 11, 12, 13, 14, 15, 16, 17, 18, 19, 20, 21, 22, 23, 24, 25] [] (c_X5_copyPlan l D cA ar (jdg (trR M s_) 6 s_ s_) (6) (s_) (by omega) (by omega)) mwX5_copyPlan wmX5_143 rfl (q0 := 0) rfl rfl rfl (Nat.le_of_ble_eq_true rfl) ⟨by decide, by decide⟩ ⟨by show _ ≤ 0; omega, by show _ ≤ 0; omega⟩ rfl rfl (by decide) (by decide) (by decide) dX5_attempt_267 (fun r14 u15 hp16 => ?_)
                obtain ⟨rfl, rfl⟩ := hp16
                refine x_aload_n F 4 dX5_attempt_270 rfl ?_
                refine x_get F inUX5 0 24 rfl rfl (by decide) wfX5_68 rfl dX5_attempt_271 ?_
                refine x_iload_n F 5 dX5_attempt_274 rfl ?_
                refine x_dup2 F dX5_attempt_275 rfl rfl ?_
                refine x_iald F 20 (k := s_) rfl (by omega) (by decide) dX5_attempt_276 ?_
                refine x_top (M 24 s_) (by show jdg (trR M s_) 6 s_ s_ 24 s_ = _; rw [jdg_o _ _ _ _ _ (by decide) (by decide), trR_o _ _ _ (by decide)]) ?_
                refine x_iconst F (nI 1) dX5_attempt_277 (by decide +kernel) ?_
                refine x_iadd F ((M 24 s_) + (nI 1)) dX5_attempt_278 rfl ?_
                refine x_iast F 20 (k := s_) (wR cA ar (st2 (cpR (jdg (trR M s_) 6 s_ s_) (6) (s_) 16) 24 s_ ((M 24 s_) + (nI 1)))) rfl (by omega) (by decide) rfl dX5_attempt_279 ?_
                exact x_vret F (st2 (cpR (jdg (trR M s_) 6 s_ s_) (6) (s_) 16) 24 s_ ((M 24 s_) + (nI 1))) (⟨rfl, by unfold atR; rw [if_neg (by omega), if_neg (fun z => bz_0.mp h232 z.1)]⟩) (rfl) (by omega) (by omega) dX5_attempt_280
              · refine x_aload_n F 4 dX5_attempt_235 rfl ?_
                refine x_get F inUX5 0 22 rfl rfl (by decide) wfX5_62 rfl dX5_attempt_236 ?_
                refine x_iload F 0 dX5_attempt_239 rfl ?_
                refine x_iald F 18 (k := (8 * s_) + (t % L)) rfl (by omega) (by decide) dX5_attempt_241 ?_
                refine x_top (M 22 (8 * s_ + t % L)) (by rw [jdg_o _ _ _ _ _ (by decide) (by decide), trR_o _ _ _ (by decide)]) ?_
                refine x_aload_n F 4 dX5_attempt_242 rfl ?_
                refine x_get F inUX5 0 23 rfl rfl (by decide) wfX5_65 rfl dX5_attempt_243 ?_
                refine x_iload F 0 dX5_attempt_246 rfl ?_
                refine x_iald F 19 (k := (8 * s_) + (t % L)) rfl (by omega) (by decide) dX5_attempt_248 ?_
                refine x_top (M 23 (8 * s_ + t % L)) (by rw [jdg_o _ _ _ _ _ (by decide) (by decide), trR_o _ _ _ (by decide)]) ?_
                refine x_aload_n F 4 dX5_attempt_249 rfl ?_
                refine x_get F inUX5 0 15 rfl rfl (by decide) wfX5_119 rfl dX5_attempt_250 ?_
                refine x_top (hdR (trR M s_) 6 s_ s_ 16) (rfl) ?_
                refine x_aload_n F 4 dX5_attempt_253 rfl ?_
                refine x_get F inUX5 0 16 rfl rfl (by decide) wfX5_122 rfl dX5_attempt_254 ?_
                refine x_top (sfR (trR M s_) 6 s_ s_ 16) (rfl) ?_
                refine x_callSr F [] [] (c_X5_isBetter l D cA (M 22 (8 * s_ + t % L)) (M 23 (8 * s_ + t % L)) (hdR (trR M s_) 6 s_ s_ 16) (sfR (trR M s_) 6 s_ s_ 16)) mwX5_isBetter wmX5_139 rfl rfl (Nat.le_of_ble_eq_true rfl) ⟨by decide, by decide⟩ ⟨by show _ ≤ 0; omega, by show _ ≤ 0; omega⟩ rfl (by decide) dX5_attempt_257 (fun r17 hp18 => ?_)
                subst hp18
                refine x_if_ne F 280 dX5_attempt_260 (by decide) (fun h260 => ?_) (fun h260 => ?_)
                · exact x_vret F (jdg (trR M s_) 6 s_ s_) (⟨rfl, by unfold atR; rw [if_neg (by omega), if_pos ⟨bz_n0.mp h232, bz_n0.mp h260⟩]⟩) (rfl) (by omega) (by omega) dX5_attempt_280
                · refine x_aload_n F 4 dX5_attempt_263 rfl ?_
                  refine x_bipush F (nI 6) dX5_attempt_264 (by decide +kernel) ?_
                  refine x_iload_n F 5 dX5_attempt_266 rfl ?_
                  refine x_callV F [] ([]) [0, 1, 2, 3, 4, 5, 6, 7, 8, 9, 10, 11, 12, 13, 14, 15, 16, 17, 18, 19, 20, 21, 22, 23, 24, 25] [] (c_X5_copyPlan l D cA ar (jdg (trR M s_) 6 s_ s_) (6) (s_) (by omega) (by omega)) mwX5_copyPlan wmX5_143 rfl (q0 := 0) rfl rfl rfl (Nat.le_of_ble_eq_true rfl) ⟨by decide, by decide⟩ ⟨by show _ ≤ 0; omega, by show _ ≤ 0; omega⟩ rfl rfl (by decide) (by decide) (by decide) dX5_attempt_267 (fun r19 u20 hp21 => ?_)
                  obtain ⟨rfl, rfl⟩ := hp21
                  refine x_aload_n F 4 dX5_attempt_270 rfl ?_
                  refine x_get F inUX5 0 24 rfl rfl (by decide) wfX5_68 rfl dX5_attempt_271 ?_
                  refine x_iload_n F 5 dX5_attempt_274 rfl ?_
                  refine x_dup2 F dX5_attempt_275 rfl rfl ?_
                  refine x_iald F 20 (k := s_) rfl (by omega) (by decide) dX5_attempt_276 ?_
                  refine x_top (M 24 s_) (by show jdg (trR M s_) 6 s_ s_ 24 s_ = _; rw [jdg_o _ _ _ _ _ (by decide) (by decide), trR_o _ _ _ (by decide)]) ?_
                  refine x_iconst F (nI 1) dX5_attempt_277 (by decide +kernel) ?_
                  refine x_iadd F ((M 24 s_) + (nI 1)) dX5_attempt_278 rfl ?_
                  refine x_iast F 20 (k := s_) (wR cA ar (st2 (cpR (jdg (trR M s_) 6 s_ s_) (6) (s_) 16) 24 s_ ((M 24 s_) + (nI 1)))) rfl (by omega) (by decide) rfl dX5_attempt_279 ?_
                  exact x_vret F (st2 (cpR (jdg (trR M s_) 6 s_ s_) (6) (s_) 16) 24 s_ ((M 24 s_) + (nI 1))) (⟨rfl, by unfold atR; rw [if_neg (by omega), if_neg (fun z => bz_0.mp h260 z.2)]⟩) (rfl) (by omega) (by omega) dX5_attempt_280
            · have h160n : (unat (M 20 s_) 24 % 7) = 6 := (nI_eq (by omega) (by decide)).mp h160
              refine x_iconst F (-1) dX5_attempt_163 (by decide +kernel) ?_
              refine x_goto F 169 dX5_attempt_164 (by decide) ?_
              refine x_iast F 13 (k := 96 + jx) (wR cA ar (st2 (cpR M (s_) (6) 16) 14 (96 + jx) (-1))) rfl (by omega) (by decide) rfl dX5_attempt_169 ?_
              have etr : (st2 (cpR M (s_) (6) 16) 14 (96 + jx) (-1)) = trR M s_ := by unfold trR; rw [if_neg h75n, ejx, if_pos h160n]
              rw [etr]
              refine x_aload_n F 2 dX5_attempt_170 rfl ?_
              refine x_iload_n F 3 dX5_attempt_171 rfl ?_
              refine x_iload_n F 3 dX5_attempt_172 rfl ?_
              refine x_iload_n F 3 dX5_attempt_173 rfl ?_
              refine x_callV F [] ([]) [0, 1, 2, 3, 4, 5, 6, 7, 8, 9, 10, 11, 12, 13, 14, 15, 16, 17, 18, 19, 20, 21, 22, 23, 24, 25] [] (c_X5_judge l D cA ar (trR M s_) (s_) (s_) (s_) (by omega) (by omega) (by omega)) mwX5_judge wmX5_135 rfl (q0 := 0) rfl rfl rfl (Nat.le_of_ble_eq_true rfl) ⟨by decide, by decide⟩ ⟨by show _ ≤ 0; omega, by show _ ≤ 0; omega⟩ rfl rfl (by decide) (by decide) (by decide) dX5_attempt_174 (fun r22 u23 hp24 => ?_)
              obtain ⟨rfl, rfl⟩ := hp24
              refine x_aload_n F 2 dX5_attempt_177 rfl ?_
              refine x_get F inUX5 0 15 rfl rfl (by decide) wfX5_119 rfl dX5_attempt_178 ?_
              refine x_top (hdR (trR M s_) s_ s_ s_ 16) (rfl) ?_
              refine x_istore F [(5, .int (hdR (trR M s_) s_ s_ s_ 16)), (4, .int (nI jx)), (0, .ref (ar 100)), (1, .int (nI s_)), (2, .int (M 20 s_)), (3, .int (nI (mvc (slc s_ M) 16)))] dX5_attempt_181 (by decide) rfl ?_
              refine x_aload_n F 2 dX5_attempt_183 rfl ?_
              refine x_get F inUX5 0 16 rfl rfl (by decide) wfX5_122 rfl dX5_attempt_184 ?_
              refine x_top (sfR (trR M s_) s_ s_ s_ 16) (rfl) ?_
              refine x_istore F [(6, .int (sfR (trR M s_) s_ s_ s_ 16)), (5, .int (hdR (trR M s_) s_ s_ s_ 16)), (4, .int (nI jx)), (0, .ref (ar 100)), (1, .int (nI s_)), (2, .int (M 20 s_)), (3, .int (nI (mvc (slc s_ M) 16)))] dX5_attempt_187 (by decide) rfl ?_
              refine x_aload_n F 3 dX5_attempt_189 rfl ?_
              refine x_bipush F (nI 6) dX5_attempt_190 (by decide +kernel) ?_
              refine x_iload_n F 4 dX5_attempt_192 rfl ?_
              refine x_iload_n F 4 dX5_attempt_193 rfl ?_
              refine x_callV F [] ([]) [0, 1, 2, 3, 4, 5, 6, 7, 8, 9, 10, 11, 12, 13, 14, 15, 16, 17, 18, 19, 20, 21, 22, 23, 24, 25] [] (c_X5_judge l D cA ar (jdg (trR M s_) (s_) (s_) (s_)) (6) (s_) (s_) (by omega) (by omega) (by omega)) mwX5_judge wmX5_135 rfl (q0 := 0) rfl rfl rfl (Nat.le_of_ble_eq_true rfl) ⟨by decide, by decide⟩ ⟨by show _ ≤ 0; omega, by show _ ≤ 0; omega⟩ rfl rfl (by decide) (by decide) (by decide) dX5_attempt_194 (fun r25 u26 hp27 => ?_)
              obtain ⟨rfl, rfl⟩ := hp27
              rw [jdg_jdg]
              refine x_bipush F (nI 8) dX5_attempt_197 (by decide +kernel) ?_
              refine x_iload_n F 4 dX5_attempt_199 rfl ?_
              refine x_imul F (nI (8 * s_)) dX5_attempt_200 (pk_mul _ _) ?_
              refine x_aload_n F 3 dX5_attempt_201 rfl ?_
              refine x_get F inUX5 0 19 rfl rfl (by decide) wfX5_53 rfl dX5_attempt_202 ?_
              refine x_iload_n F 4 dX5_attempt_205 rfl ?_
              refine x_iald F 15 (k := s_) rfl (by omega) (by decide) dX5_attempt_206 ?_
              refine x_top (nI t) (by rw [jdg_o _ _ _ _ _ (by decide) (by decide), trR_o _ _ _ (by decide)]; exact ht) ?_
              refine x_aload_n F 3 dX5_attempt_207 rfl ?_
              refine x_get F inUX5 0 21 rfl rfl (by decide) wfX5_59 rfl dX5_attempt_208 ?_
              refine x_iload_n F 4 dX5_attempt_211 rfl ?_
              refine x_iald F 17 (k := s_) rfl (by omega) (by decide) dX5_attempt_212 ?_
              refine x_top (nI L) (by rw [jdg_o _ _ _ _ _ (by decide) (by decide), trR_o _ _ _ (by decide)]; exact hl) ?_
              refine x_irem F ((nI t) - (nI t) / (nI L) * (nI L)) dX5_attempt_213 (nI_ne0 hL0 (by omega)) rfl ?_
              refine x_top (nI (t % L)) (pk_rem (by omega) hL0 (by omega)) ?_
              have htl := Nat.mod_lt t hL0
              refine x_iadd F (nI ((8 * s_) + (t % L))) dX5_attempt_214 (nI_add _ _) ?_
              refine x_istore F [(7, .int (nI ((8 * s_) + (t % L)))), (6, .int (sfR (trR M s_) s_ s_ s_ 16)), (5, .int (hdR (trR M s_) s_ s_ s_ 16)), (4, .int (nI jx)), (0, .ref (ar 100)), (1, .int (nI s_)), (2, .int (M 20 s_)), (3, .int (nI (mvc (slc s_ M) 16)))] dX5_attempt_215 (by decide) rfl ?_
              refine x_iload F 2 dX5_attempt_217 rfl ?_
              refine x_iload F 1 dX5_attempt_219 rfl ?_
              refine x_aload_n F 4 dX5_attempt_221 rfl ?_
              refine x_get F inUX5 0 15 rfl rfl (by decide) wfX5_119 rfl dX5_attempt_222 ?_
              refine x_top (hdR (trR M s_) 6 s_ s_ 16) (rfl) ?_
              refine x_aload_n F 4 dX5_attempt_225 rfl ?_
              refine x_get F inUX5 0 16 rfl rfl (by decide) wfX5_122 rfl dX5_attempt_226 ?_
              refine x_top (sfR (trR M s_) 6 s_ s_ 16) (rfl) ?_
              refine x_callSr F [] [] (c_X5_isBetter l D cA (hdR (trR M s_) s_ s_ s_ 16) (sfR (trR M s_) s_ s_ s_ 16) (hdR (trR M s_) 6 s_ s_ 16) (sfR (trR M s_) 6 s_ s_ 16)) mwX5_isBetter wmX5_139 rfl rfl (Nat.le_of_ble_eq_true rfl) ⟨by decide, by decide⟩ ⟨by show _ ≤ 0; omega, by show _ ≤ 0; omega⟩ rfl (by decide) dX5_attempt_229 (fun r28 hp29 => ?_)
              subst hp29
              refine x_if_eq F 263 dX5_attempt_232 (by decide) (fun h232 => ?_) (fun h232 => ?_)
              · refine x_aload_n F 4 dX5_attempt_263 rfl ?_
                refine x_bipush F (nI 6) dX5_attempt_264 (by decide +kernel) ?_
                refine x_iload_n F 5 dX5_attempt_266 rfl ?_
                refine x_callV F [] ([]) [0, 1, 2, 3, 4, 5, 6, 7, 8, 9, 10, 11, 12, 13, 14, 15, 16, 17, 18, 19, 20, 21, 22, 23, 24, 25] [] (c_X5_copyPlan l D cA ar (jdg (trR M s_) 6 s_ s_) (6) (s_) (by omega) (by omega)) mwX5_copyPlan wmX5_143 rfl (q0 := 0) rfl rfl rfl (Nat.le_of_ble_eq_true rfl) ⟨by decide, by decide⟩ ⟨by show _ ≤ 0; omega, by show _ ≤ 0; omega⟩ rfl rfl (by decide) (by decide) (by decide) dX5_attempt_267 (fun r30 u31 hp32 => ?_)
                obtain ⟨rfl, rfl⟩ := hp32
                refine x_aload_n F 4 dX5_attempt_270 rfl ?_
                refine x_get F inUX5 0 24 rfl rfl (by decide) wfX5_68 rfl dX5_attempt_271 ?_
                refine x_iload_n F 5 dX5_attempt_274 rfl ?_
                refine x_dup2 F dX5_attempt_275 rfl rfl ?_
                refine x_iald F 20 (k := s_) rfl (by omega) (by decide) dX5_attempt_276 ?_
                refine x_top (M 24 s_) (by show jdg (trR M s_) 6 s_ s_ 24 s_ = _; rw [jdg_o _ _ _ _ _ (by decide) (by decide), trR_o _ _ _ (by decide)]) ?_
                refine x_iconst F (nI 1) dX5_attempt_277 (by decide +kernel) ?_
                refine x_iadd F ((M 24 s_) + (nI 1)) dX5_attempt_278 rfl ?_
                refine x_iast F 20 (k := s_) (wR cA ar (st2 (cpR (jdg (trR M s_) 6 s_ s_) (6) (s_) 16) 24 s_ ((M 24 s_) + (nI 1)))) rfl (by omega) (by decide) rfl dX5_attempt_279 ?_
                exact x_vret F (st2 (cpR (jdg (trR M s_) 6 s_ s_) (6) (s_) 16) 24 s_ ((M 24 s_) + (nI 1))) (⟨rfl, by unfold atR; rw [if_neg (by omega), if_neg (fun z => bz_0.mp h232 z.1)]⟩) (rfl) (by omega) (by omega) dX5_attempt_280
              · refine x_aload_n F 4 dX5_attempt_235 rfl ?_
                refine x_get F inUX5 0 22 rfl rfl (by decide) wfX5_62 rfl dX5_attempt_236 ?_
                refine x_iload F 0 dX5_attempt_239 rfl ?_
                refine x_iald F 18 (k := (8 * s_) + (t % L)) rfl (by omega) (by decide) dX5_attempt_241 ?_
                refine x_top (M 22 (8 * s_ + t % L)) (by rw [jdg_o _ _ _ _ _ (by decide) (by decide), trR_o _ _ _ (by decide)]) ?_
                refine x_aload_n F 4 dX5_attempt_242 rfl ?_
                refine x_get F inUX5 0 23 rfl rfl (by decide) wfX5_65 rfl dX5_attempt_243 ?_
                refine x_iload F 0 dX5_attempt_246 rfl ?_
                refine x_iald F 19 (k := (8 * s_) + (t % L)) rfl (by omega) (by decide) dX5_attempt_248 ?_
                refine x_top (M 23 (8 * s_ + t % L)) (by rw [jdg_o _ _ _ _ _ (by decide) (by decide), trR_o _ _ _ (by decide)]) ?_
                refine x_aload_n F 4 dX5_attempt_249 rfl ?_
                refine x_get F inUX5 0 15 rfl rfl (by decide) wfX5_119 rfl dX5_attempt_250 ?_
                refine x_top (hdR (trR M s_) 6 s_ s_ 16) (rfl) ?_
                refine x_aload_n F 4 dX5_attempt_253 rfl ?_
                refine x_get F inUX5 0 16 rfl rfl (by decide) wfX5_122 rfl dX5_attempt_254 ?_
                refine x_top (sfR (trR M s_) 6 s_ s_ 16) (rfl) ?_
                refine x_callSr F [] [] (c_X5_isBetter l D cA (M 22 (8 * s_ + t % L)) (M 23 (8 * s_ + t % L)) (hdR (trR M s_) 6 s_ s_ 16) (sfR (trR M s_) 6 s_ s_ 16)) mwX5_isBetter wmX5_139 rfl rfl (Nat.le_of_ble_eq_true rfl) ⟨by decide, by decide⟩ ⟨by show _ ≤ 0; omega, by show _ ≤ 0; omega⟩ rfl (by decide) dX5_attempt_257 (fun r33 hp34 => ?_)
                subst hp34
                refine x_if_ne F 280 dX5_attempt_260 (by decide) (fun h260 => ?_) (fun h260 => ?_)
                · exact x_vret F (jdg (trR M s_) 6 s_ s_) (⟨rfl, by unfold atR; rw [if_neg (by omega), if_pos ⟨bz_n0.mp h232, bz_n0.mp h260⟩]⟩) (rfl) (by omega) (by omega) dX5_attempt_280
                · refine x_aload_n F 4 dX5_attempt_263 rfl ?_
                  refine x_bipush F (nI 6) dX5_attempt_264 (by decide +kernel) ?_
                  refine x_iload_n F 5 dX5_attempt_266 rfl ?_
                  refine x_callV F [] ([]) [0, 1, 2, 3, 4, 5, 6, 7, 8, 9, 10, 11, 12, 13, 14, 15, 16, 17, 18, 19, 20, 21, 22, 23, 24, 25] [] (c_X5_copyPlan l D cA ar (jdg (trR M s_) 6 s_ s_) (6) (s_) (by omega) (by omega)) mwX5_copyPlan wmX5_143 rfl (q0 := 0) rfl rfl rfl (Nat.le_of_ble_eq_true rfl) ⟨by decide, by decide⟩ ⟨by show _ ≤ 0; omega, by show _ ≤ 0; omega⟩ rfl rfl (by decide) (by decide) (by decide) dX5_attempt_267 (fun r35 u36 hp37 => ?_)
                  obtain ⟨rfl, rfl⟩ := hp37
                  refine x_aload_n F 4 dX5_attempt_270 rfl ?_
                  refine x_get F inUX5 0 24 rfl rfl (by decide) wfX5_68 rfl dX5_attempt_271 ?_
                  refine x_iload_n F 5 dX5_attempt_274 rfl ?_
                  refine x_dup2 F dX5_attempt_275 rfl rfl ?_
                  refine x_iald F 20 (k := s_) rfl (by omega) (by decide) dX5_attempt_276 ?_
                  refine x_top (M 24 s_) (by show jdg (trR M s_) 6 s_ s_ 24 s_ = _; rw [jdg_o _ _ _ _ _ (by decide) (by decide), trR_o _ _ _ (by decide)]) ?_
                  refine x_iconst F (nI 1) dX5_attempt_277 (by decide +kernel) ?_
                  refine x_iadd F ((M 24 s_) + (nI 1)) dX5_attempt_278 rfl ?_
                  refine x_iast F 20 (k := s_) (wR cA ar (st2 (cpR (jdg (trR M s_) 6 s_ s_) (6) (s_) 16) 24 s_ ((M 24 s_) + (nI 1)))) rfl (by omega) (by decide) rfl dX5_attempt_279 ?_
                  exact x_vret F (st2 (cpR (jdg (trR M s_) 6 s_ s_) (6) (s_) 16) 24 s_ ((M 24 s_) + (nI 1))) (⟨rfl, by unfold atR; rw [if_neg (by omega), if_neg (fun z => bz_0.mp h260 z.2)]⟩) (rfl) (by omega) (by omega) dX5_attempt_280
          · have h75n : (unat (M 20 s_) 8 % 4) = 3 := (nI_eq (by omega) (by decide)).mp h75
            refine x_aload_n F 1 dX5_attempt_78 rfl ?_
            refine x_iload_n F 2 dX5_attempt_79 rfl ?_
            refine x_iload_n F 3 dX5_attempt_80 rfl ?_
            refine x_bipush F (nI 20) dX5_attempt_81 (by decide +kernel) ?_
            refine x_iushr F (((M 20 s_).toUInt32 >>> ((nI 20).toUInt32 &&& Int32.toUInt32 31)).toInt32) dX5_attempt_83 rfl ?_
            refine x_top (nI (unat (M 20 s_) 20)) (ush_eq _ 20 (by decide +kernel)) ?_
            refine x_iload_n F 4 dX5_attempt_84 rfl ?_
            refine x_irem F ((nI (unat (M 20 s_) 20)) - (nI (unat (M 20 s_) 20)) / (nI (mvc (slc s_ M) 16)) * (nI (mvc (slc s_ M) 16))) dX5_attempt_85 (nI_ne0 hm0 (by omega)) rfl ?_
            refine x_top (nI (unat (M 20 s_) 20 % (mvc (slc s_ M) 16))) (pk_rem (unat_lt _ (by decide)) hm0 (by omega)) ?_
            refine x_callVr F [] [0, 1, 2, 3, 4, 5, 6, 7, 8, 9, 10, 11, 12, 13, 14, 15, 16, 17, 18, 19, 20, 21, 22, 23, 24, 25] (c_X5_nth l D cA ar (cpR M s_ 6 16) s_ (unat (M 20 s_) 20 % (mvc (slc s_ M) 16)) (by omega) (by rw [hc1]; exact Nat.mod_lt _ hm0)) mwX5_nth wmX5_160 rfl (q0 := 0) rfl rfl rfl (Nat.le_of_ble_eq_true rfl) ⟨by decide, by decide⟩ ⟨by show _ ≤ 0; omega, by show _ ≤ 0; omega⟩ rfl (by decide) dX5_attempt_86 (fun r38 hp39 => ?_)
            obtain ⟨kx, rfl, hkx16, hkxf, hkxc⟩ := hp39
            have ekx : jth (slc s_ M) (unat (M 20 s_) 20 % (mvc (slc s_ M) 16)) = kx := jth_eq hkx16 hkxf ((mvc_cg (F := slc s_ M) (G := slc s_ (cpR M s_ 6 16)) rfl rfl kx).symm.trans hkxc)
            refine x_istore F [(5, .int (nI kx)), (4, .int (nI jx)), (0, .ref (ar 100)), (1, .int (nI s_)), (2, .int (M 20 s_)), (3, .int (nI (mvc (slc s_ M) 16)))] dX5_attempt_89 (by decide) rfl ?_
            refine x_aload_n F 2 dX5_attempt_91 rfl ?_
            refine x_get F inUX5 0 14 rfl rfl (by decide) wfX5_47 rfl dX5_attempt_92 ?_
            refine x_bipush F (nI 96) dX5_attempt_95 (by decide +kernel) ?_
            refine x_iload F 1 dX5_attempt_97 rfl ?_
            refine x_iadd F (nI (96 + jx)) dX5_attempt_99 (nI_add _ _) ?_
            refine x_aload_n F 2 dX5_attempt_100 rfl ?_
            refine x_get F inUX5 0 14 rfl rfl (by decide) wfX5_47 rfl dX5_attempt_101 ?_
            refine x_bipush F (nI 16) dX5_attempt_104 (by decide +kernel) ?_
            refine x_iload_n F 3 dX5_attempt_106 rfl ?_
            refine x_imul F (nI (16 * s_)) dX5_attempt_107 (pk_mul _ _) ?_
            refine x_iload F 0 dX5_attempt_108 rfl ?_
            refine x_iadd F (nI ((16 * s_) + kx)) dX5_attempt_110 (nI_add _ _) ?_
            refine x_iald F 13 (k := (16 * s_) + kx) rfl (by omega) (by decide) dX5_attempt_111 ?_
            refine x_top (M 14 (16 * s_ + kx)) (by unfold cpR; rw [if_neg (by omega)]) ?_
            refine x_iast F 13 (k := 96 + jx) (wR cA ar (st2 (cpR M (s_) (6) 16) 14 (96 + jx) (M 14 (16 * s_ + kx)))) rfl (by omega) (by decide) rfl dX5_attempt_112 ?_
            refine x_aload_n F 2 dX5_attempt_113 rfl ?_
            refine x_get F inUX5 0 14 rfl rfl (by decide) wfX5_47 rfl dX5_attempt_114 ?_
            refine x_bipush F (nI 96) dX5_attempt_117 (by decide +kernel) ?_
            refine x_iload F 0 dX5_attempt_119 rfl ?_
            refine x_iadd F (nI (96 + kx)) dX5_attempt_121 (nI_add _ _) ?_
            refine x_aload_n F 2 dX5_attempt_122 rfl ?_
            refine x_get F inUX5 0 14 rfl rfl (by decide) wfX5_47 rfl dX5_attempt_123 ?_
            refine x_bipush F (nI 16) dX5_attempt_126 (by decide +kernel) ?_
            refine x_iload_n F 3 dX5_attempt_128 rfl ?_
            refine x_imul F (nI (16 * s_)) dX5_attempt_129 (pk_mul _ _) ?_
            refine x_iload F 1 dX5_attempt_130 rfl ?_
            refine x_iadd F (nI ((16 * s_) + jx)) dX5_attempt_132 (nI_add _ _) ?_
            refine x_iald F 13 (k := (16 * s_) + jx) rfl (by omega) (by decide) dX5_attempt_133 ?_
            refine x_top (M 14 (16 * s_ + jx)) (by rw [st2_at, if_neg (by omega)]; unfold cpR; rw [if_neg (by omega)]) ?_
            refine x_iast F 13 (k := 96 + kx) (wR cA ar (st2 (st2 (cpR M (s_) (6) 16) 14 (96 + jx) (M 14 (16 * s_ + kx))) 14 (96 + kx) (M 14 (16 * s_ + jx)))) rfl (by omega) (by decide) rfl dX5_attempt_134 ?_
            refine x_goto F 170 dX5_attempt_135 (by decide) ?_
            have etr : (st2 (st2 (cpR M (s_) (6) 16) 14 (96 + jx) (M 14 (16 * s_ + kx))) 14 (96 + kx) (M 14 (16 * s_ + jx))) = trR M s_ := by unfold trR; rw [if_pos h75n, ejx, ekx]
            rw [etr]
            refine x_aload_n F 2 dX5_attempt_170 rfl ?_
            refine x_iload_n F 3 dX5_attempt_171 rfl ?_
            refine x_iload_n F 3 dX5_attempt_172 rfl ?_
            refine x_iload_n F 3 dX5_attempt_173 rfl ?_
            refine x_callV F [] ([]) [0, 1, 2, 3, 4, 5, 6, 7, 8, 9, 10, 11, 12, 13, 14, 15, 16, 17, 18, 19, 20, 21, 22, 23, 24, 25] [] (c_X5_judge l D cA ar (trR M s_) (s_) (s_) (s_) (by omega) (by omega) (by omega)) mwX5_judge wmX5_135 rfl (q0 := 0) rfl rfl rfl (Nat.le_of_ble_eq_true rfl) ⟨by decide, by decide⟩ ⟨by show _ ≤ 0; omega, by show _ ≤ 0; omega⟩ rfl rfl (by decide) (by decide) (by decide) dX5_attempt_174 (fun r40 u41 hp42 => ?_)
            obtain ⟨rfl, rfl⟩ := hp42
            refine x_aload_n F 2 dX5_attempt_177 rfl ?_
            refine x_get F inUX5 0 15 rfl rfl (by decide) wfX5_119 rfl dX5_attempt_178 ?_
            refine x_top (hdR (trR M s_) s_ s_ s_ 16) (rfl) ?_
            refine x_istore F [(5, .int (hdR (trR M s_) s_ s_ s_ 16)), (4, .int (nI jx)), (0, .ref (ar 100)), (1, .int (nI s_)), (2, .int (M 20 s_)), (3, .int (nI (mvc (slc s_ M) 16)))] dX5_attempt_181 (by decide) rfl ?_
            refine x_aload_n F 2 dX5_attempt_183 rfl ?_
            refine x_get F inUX5 0 16 rfl rfl (by decide) wfX5_122 rfl dX5_attempt_184 ?_
            refine x_top (sfR (trR M s_) s_ s_ s_ 16) (rfl) ?_
            refine x_istore F [(6, .int (sfR (trR M s_) s_ s_ s_ 16)), (5, .int (hdR (trR M s_) s_ s_ s_ 16)), (4, .int (nI jx)), (0, .ref (ar 100)), (1, .int (nI s_)), (2, .int (M 20 s_)), (3, .int (nI (mvc (slc s_ M) 16)))] dX5_attempt_187 (by decide) rfl ?_
            refine x_aload_n F 3 dX5_attempt_189 rfl ?_
            refine x_bipush F (nI 6) dX5_attempt_190 (by decide +kernel) ?_
            refine x_iload_n F 4 dX5_attempt_192 rfl ?_
            refine x_iload_n F 4 dX5_attempt_193 rfl ?_
            refine x_callV F [] ([]) [0, 1, 2, 3, 4, 5, 6, 7, 8, 9, 10, 11, 12, 13, 14, 15, 16, 17, 18, 19, 20, 21, 22, 23, 24, 25] [] (c_X5_judge l D cA ar (jdg (trR M s_) (s_) (s_) (s_)) (6) (s_) (s_) (by omega) (by omega) (by omega)) mwX5_judge wmX5_135 rfl (q0 := 0) rfl rfl rfl (Nat.le_of_ble_eq_true rfl) ⟨by decide, by decide⟩ ⟨by show _ ≤ 0; omega, by show _ ≤ 0; omega⟩ rfl rfl (by decide) (by decide) (by decide) dX5_attempt_194 (fun r43 u44 hp45 => ?_)
            obtain ⟨rfl, rfl⟩ := hp45
            rw [jdg_jdg]
            refine x_bipush F (nI 8) dX5_attempt_197 (by decide +kernel) ?_
            refine x_iload_n F 4 dX5_attempt_199 rfl ?_
            refine x_imul F (nI (8 * s_)) dX5_attempt_200 (pk_mul _ _) ?_
            refine x_aload_n F 3 dX5_attempt_201 rfl ?_
            refine x_get F inUX5 0 19 rfl rfl (by decide) wfX5_53 rfl dX5_attempt_202 ?_
            refine x_iload_n F 4 dX5_attempt_205 rfl ?_
            refine x_iald F 15 (k := s_) rfl (by omega) (by decide) dX5_attempt_206 ?_
            refine x_top (nI t) (by rw [jdg_o _ _ _ _ _ (by decide) (by decide), trR_o _ _ _ (by decide)]; exact ht) ?_
            refine x_aload_n F 3 dX5_attempt_207 rfl ?_
            refine x_get F inUX5 0 21 rfl rfl (by decide) wfX5_59 rfl dX5_attempt_208 ?_
            refine x_iload_n F 4 dX5_attempt_211 rfl ?_
            refine x_iald F 17 (k := s_) rfl (by omega) (by decide) dX5_attempt_212 ?_
            refine x_top (nI L) (by rw [jdg_o _ _ _ _ _ (by decide) (by decide), trR_o _ _ _ (by decide)]; exact hl) ?_
            refine x_irem F ((nI t) - (nI t) / (nI L) * (nI L)) dX5_attempt_213 (nI_ne0 hL0 (by omega)) rfl ?_
            refine x_top (nI (t % L)) (pk_rem (by omega) hL0 (by omega)) ?_
            have htl := Nat.mod_lt t hL0
            refine x_iadd F (nI ((8 * s_) + (t % L))) dX5_attempt_214 (nI_add _ _) ?_
            refine x_istore F [(7, .int (nI ((8 * s_) + (t % L)))), (6, .int (sfR (trR M s_) s_ s_ s_ 16)), (5, .int (hdR (trR M s_) s_ s_ s_ 16)), (4, .int (nI jx)), (0, .ref (ar 100)), (1, .int (nI s_)), (2, .int (M 20 s_)), (3, .int (nI (mvc (slc s_ M) 16)))] dX5_attempt_215 (by decide) rfl ?_
            refine x_iload F 2 dX5_attempt_217 rfl ?_
            refine x_iload F 1 dX5_attempt_219 rfl ?_
            refine x_aload_n F 4 dX5_attempt_221 rfl ?_
            refine x_get F inUX5 0 15 rfl rfl (by decide) wfX5_119 rfl dX5_attempt_222 ?_
            refine x_top (hdR (trR M s_) 6 s_ s_ 16) (rfl) ?_
            refine x_aload_n F 4 dX5_attempt_225 rfl ?_
            refine x_get F inUX5 0 16 rfl rfl (by decide) wfX5_122 rfl dX5_attempt_226 ?_
            refine x_top (sfR (trR M s_) 6 s_ s_ 16) (rfl) ?_
            refine x_callSr F [] [] (c_X5_isBetter l D cA (hdR (trR M s_) s_ s_ s_ 16) (sfR (trR M s_) s_ s_ s_ 16) (hdR (trR M s_) 6 s_ s_ 16) (sfR (trR M s_) 6 s_ s_ 16)) mwX5_isBetter wmX5_139 rfl rfl (Nat.le_of_ble_eq_true rfl) ⟨by decide, by decide⟩ ⟨by show _ ≤ 0; omega, by show _ ≤ 0; omega⟩ rfl (by decide) dX5_attempt_229 (fun r46 hp47 => ?_)
            subst hp47
            refine x_if_eq F 263 dX5_attempt_232 (by decide) (fun h232 => ?_) (fun h232 => ?_)
            · refine x_aload_n F 4 dX5_attempt_263 rfl ?_
              refine x_bipush F (nI 6) dX5_attempt_264 (by decide +kernel) ?_
              refine x_iload_n F 5 dX5_attempt_266 rfl ?_
              refine x_callV F [] ([]) [0, 1, 2, 3, 4, 5, 6, 7, 8, 9, 10, 11, 12, 13, 14, 15, 16, 17, 18, 19, 20, 21, 22, 23, 24, 25] [] (c_X5_copyPlan l D cA ar (jdg (trR M s_) 6 s_ s_) (6) (s_) (by omega) (by omega)) mwX5_copyPlan wmX5_143 rfl (q0 := 0) rfl rfl rfl (Nat.le_of_ble_eq_true rfl) ⟨by decide, by decide⟩ ⟨by show _ ≤ 0; omega, by show _ ≤ 0; omega⟩ rfl rfl (by decide) (by decide) (by decide) dX5_attempt_267 (fun r48 u49 hp50 => ?_)
              obtain ⟨rfl, rfl⟩ := hp50
              refine x_aload_n F 4 dX5_attempt_270 rfl ?_
              refine x_get F inUX5 0 24 rfl rfl (by decide) wfX5_68 rfl dX5_attempt_271 ?_
              refine x_iload_n F 5 dX5_attempt_274 rfl ?_
              refine x_dup2 F dX5_attempt_275 rfl rfl ?_
              refine x_iald F 20 (k := s_) rfl (by omega) (by decide) dX5_attempt_276 ?_
              refine x_top (M 24 s_) (by show jdg (trR M s_) 6 s_ s_ 24 s_ = _; rw [jdg_o _ _ _ _ _ (by decide) (by decide), trR_o _ _ _ (by decide)]) ?_
              refine x_iconst F (nI 1) dX5_attempt_277 (by decide +kernel) ?_
              refine x_iadd F ((M 24 s_) + (nI 1)) dX5_attempt_278 rfl ?_
              refine x_iast F 20 (k := s_) (wR cA ar (st2 (cpR (jdg (trR M s_) 6 s_ s_) (6) (s_) 16) 24 s_ ((M 24 s_) + (nI 1)))) rfl (by omega) (by decide) rfl dX5_attempt_279 ?_
              exact x_vret F (st2 (cpR (jdg (trR M s_) 6 s_ s_) (6) (s_) 16) 24 s_ ((M 24 s_) + (nI 1))) (⟨rfl, by unfold atR; rw [if_neg (by omega), if_neg (fun z => bz_0.mp h232 z.1)]⟩) (rfl) (by omega) (by omega) dX5_attempt_280
            · refine x_aload_n F 4 dX5_attempt_235 rfl ?_
              refine x_get F inUX5 0 22 rfl rfl (by decide) wfX5_62 rfl dX5_attempt_236 ?_
              refine x_iload F 0 dX5_attempt_239 rfl ?_
              refine x_iald F 18 (k := (8 * s_) + (t % L)) rfl (by omega) (by decide) dX5_attempt_241 ?_
              refine x_top (M 22 (8 * s_ + t % L)) (by rw [jdg_o _ _ _ _ _ (by decide) (by decide), trR_o _ _ _ (by decide)]) ?_
              refine x_aload_n F 4 dX5_attempt_242 rfl ?_
              refine x_get F inUX5 0 23 rfl rfl (by decide) wfX5_65 rfl dX5_attempt_243 ?_
              refine x_iload F 0 dX5_attempt_246 rfl ?_
              refine x_iald F 19 (k := (8 * s_) + (t % L)) rfl (by omega) (by decide) dX5_attempt_248 ?_
              refine x_top (M 23 (8 * s_ + t % L)) (by rw [jdg_o _ _ _ _ _ (by decide) (by decide), trR_o _ _ _ (by decide)]) ?_
              refine x_aload_n F 4 dX5_attempt_249 rfl ?_
              refine x_get F inUX5 0 15 rfl rfl (by decide) wfX5_119 rfl dX5_attempt_250 ?_
              refine x_top (hdR (trR M s_) 6 s_ s_ 16) (rfl) ?_
              refine x_aload_n F 4 dX5_attempt_253 rfl ?_
              refine x_get F inUX5 0 16 rfl rfl (by decide) wfX5_122 rfl dX5_attempt_254 ?_
              refine x_top (sfR (trR M s_) 6 s_ s_ 16) (rfl) ?_
              refine x_callSr F [] [] (c_X5_isBetter l D cA (M 22 (8 * s_ + t % L)) (M 23 (8 * s_ + t % L)) (hdR (trR M s_) 6 s_ s_ 16) (sfR (trR M s_) 6 s_ s_ 16)) mwX5_isBetter wmX5_139 rfl rfl (Nat.le_of_ble_eq_true rfl) ⟨by decide, by decide⟩ ⟨by show _ ≤ 0; omega, by show _ ≤ 0; omega⟩ rfl (by decide) dX5_attempt_257 (fun r51 hp52 => ?_)
              subst hp52
              refine x_if_ne F 280 dX5_attempt_260 (by decide) (fun h260 => ?_) (fun h260 => ?_)
              · exact x_vret F (jdg (trR M s_) 6 s_ s_) (⟨rfl, by unfold atR; rw [if_neg (by omega), if_pos ⟨bz_n0.mp h232, bz_n0.mp h260⟩]⟩) (rfl) (by omega) (by omega) dX5_attempt_280
              · refine x_aload_n F 4 dX5_attempt_263 rfl ?_
                refine x_bipush F (nI 6) dX5_attempt_264 (by decide +kernel) ?_
                refine x_iload_n F 5 dX5_attempt_266 rfl ?_
                refine x_callV F [] ([]) [0, 1, 2, 3, 4, 5, 6, 7, 8, 9, 10, 11, 12, 13, 14, 15, 16, 17, 18, 19, 20, 21, 22, 23, 24, 25] [] (c_X5_copyPlan l D cA ar (jdg (trR M s_) 6 s_ s_) (6) (s_) (by omega) (by omega)) mwX5_copyPlan wmX5_143 rfl (q0 := 0) rfl rfl rfl (Nat.le_of_ble_eq_true rfl) ⟨by decide, by decide⟩ ⟨by show _ ≤ 0; omega, by show _ ≤ 0; omega⟩ rfl rfl (by decide) (by decide) (by decide) dX5_attempt_267 (fun r53 u54 hp55 => ?_)
                obtain ⟨rfl, rfl⟩ := hp55
                refine x_aload_n F 4 dX5_attempt_270 rfl ?_
                refine x_get F inUX5 0 24 rfl rfl (by decide) wfX5_68 rfl dX5_attempt_271 ?_
                refine x_iload_n F 5 dX5_attempt_274 rfl ?_
                refine x_dup2 F dX5_attempt_275 rfl rfl ?_
                refine x_iald F 20 (k := s_) rfl (by omega) (by decide) dX5_attempt_276 ?_
                refine x_top (M 24 s_) (by show jdg (trR M s_) 6 s_ s_ 24 s_ = _; rw [jdg_o _ _ _ _ _ (by decide) (by decide), trR_o _ _ _ (by decide)]) ?_
                refine x_iconst F (nI 1) dX5_attempt_277 (by decide +kernel) ?_
                refine x_iadd F ((M 24 s_) + (nI 1)) dX5_attempt_278 rfl ?_
                refine x_iast F 20 (k := s_) (wR cA ar (st2 (cpR (jdg (trR M s_) 6 s_ s_) (6) (s_) 16) 24 s_ ((M 24 s_) + (nI 1)))) rfl (by omega) (by decide) rfl dX5_attempt_279 ?_
                exact x_vret F (st2 (cpR (jdg (trR M s_) 6 s_ s_) (6) (s_) 16) 24 s_ ((M 24 s_) + (nI 1))) (⟨rfl, by unfold atR; rw [if_neg (by omega), if_neg (fun z => bz_0.mp h260 z.2)]⟩) (rfl) (by omega) (by omega) dX5_attempt_280
        · have h44n : (mvc (slc s_ M) 16) = 0 := (nI_eq (by omega) (by decide)).mp (h44.trans nI_0.symm)
          exact x_vret F M (⟨rfl, by unfold atR; rw [if_pos h44n]⟩) (rfl) (by omega) (by omega) dX5_attempt_47
      · have h16n : ¬ 16 ≤ x := fun z => h16 ((nI_leI (by decide) (by omega)).mpr z)
        refine x_iload_n F 3 dX5_attempt_19 rfl ?_
        refine x_aload_n F 0 dX5_attempt_20 rfl ?_
        refine x_iload_n F 1 dX5_attempt_21 rfl ?_
        refine x_iload F 4 dX5_attempt_22 rfl ?_
        refine x_callVr F [.int (nI y)] [0, 1, 2, 3, 4, 5, 6, 7, 8, 9, 10, 11, 12, 13, 14, 15, 16, 17, 18, 19, 20, 21, 22, 23, 24, 25] (c_X5_isFree l D cA ar M s_ x (by omega) (by omega)) mwX5_isFree wmX5_156 rfl (q0 := 0) rfl rfl rfl (Nat.le_of_ble_eq_true rfl) ⟨by decide, by decide⟩ ⟨by show _ ≤ 0; omega, by show _ ≤ 0; omega⟩ rfl (by decide) dX5_attempt_24 (fun r56 hp57 => ?_)
        subst hp57
        refine x_if_eq F 34 dX5_attempt_27 (by decide) (fun h27 => ?_) (fun h27 => ?_)
        · refine x_iconst F (nI 0) dX5_attempt_34 (by decide +kernel) ?_
          refine x_iadd F (nI (y + 0)) dX5_attempt_35 (nI_add _ _) ?_
          refine x_istore_n F [(3, .int (nI (y + 0))), (0, .ref (ar 100)), (1, .int (nI s_)), (2, .int (M 20 s_)), (4, .int (nI x))] dX5_attempt_36 (by decide) rfl ?_
          refine x_iinc F (nI (x + 1)) 4 [(4, .int (nI (x + 1))), (3, .int (nI (y + 0))), (0, .ref (ar 100)), (1, .int (nI s_)), (2, .int (M 20 s_))] dX5_attempt_37 rfl ((nI_add x 1)) (by decide) rfl ?_
          refine x_goto F 12 dX5_attempt_40 (by decide) ?_
          refine x_lv [(0, .ref (ar 100)), (1, .int (nI s_)), (2, .int (M 20 s_)), (3, .int (nI (y + 0))), (4, .int (nI (x + 1)))] [2, 3, 4, 1, 0] rfl ?_
          exact ih12 (x + 1) (y + 0) (by omega) (by unfold mvc; rw [if_neg (bz_0.mp h27), ex]; rfl) (by omega)
        · refine x_iconst F (nI 1) dX5_attempt_30 (by decide +kernel) ?_
          refine x_goto F 35 dX5_attempt_31 (by decide) ?_
          refine x_iadd F (nI (y + 1)) dX5_attempt_35 (nI_add _ _) ?_
          refine x_istore_n F [(3, .int (nI (y + 1))), (0, .ref (ar 100)), (1, .int (nI s_)), (2, .int (M 20 s_)), (4, .int (nI x))] dX5_attempt_36 (by decide) rfl ?_
          refine x_iinc F (nI (x + 1)) 4 [(4, .int (nI (x + 1))), (3, .int (nI (y + 1))), (0, .ref (ar 100)), (1, .int (nI s_)), (2, .int (M 20 s_))] dX5_attempt_37 rfl ((nI_add x 1)) (by decide) rfl ?_
          refine x_goto F 12 dX5_attempt_40 (by decide) ?_
          refine x_lv [(0, .ref (ar 100)), (1, .int (nI s_)), (2, .int (M 20 s_)), (3, .int (nI (y + 1))), (4, .int (nI (x + 1)))] [2, 3, 4, 1, 0] rfl ?_
          exact ih12 (x + 1) (y + 1) (by omega) (by unfold mvc; rw [if_pos (bz_n0.mp h27), ex]) (by omega)
  exact loop12 _ 0 0 (Nat.zero_le _) rfl (Nat.lt_succ_self _)

