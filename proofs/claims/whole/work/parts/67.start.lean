/-! THE LAW: its start and its loop -/
theorem arr_obj {args : Array Value} {s : State} {C : String} (h : (Cond.arrayOver (.object C)).before args s = true) : ∃ cB : ClassId, ArrOfT s cB (.object C) ∧ va_RA s cB (.object C) := by
  obtain ⟨comp, c, k, h1, h2, h3, h4, h5⟩ := Cond.arrayOver_spec h
  exact ⟨c, fun N z => ⟨(fun k h => by cases h), k, h3, comp, h4⟩, k, comp, h3, h4, h1, h5⟩
theorem arr_int {args : Array Value} {s : State} (h : (Cond.arrayClass .int).before args s = true) : ∃ cB : ClassId, ArrOfT s cB .int ∧ va_RA s cB .int := by
  obtain ⟨c, k, comp, h1, h2, h3⟩ := Cond.arrayClass_spec h
  exact ⟨c, fun N z => ⟨(fun k h => by cases h), k, h2, comp, h3⟩, h1⟩
theorem arr_long {args : Array Value} {s : State} (h : (Cond.arrayClass .long).before args s = true) : ∃ cB : ClassId, ArrOfT s cB .long ∧ va_RA s cB .long := by
  obtain ⟨c, k, comp, h1, h2, h3⟩ := Cond.arrayClass_spec h
  exact ⟨c, fun N z => ⟨(fun k h => by cases h), k, h2, comp, h3⟩, h1⟩
theorem arr_bool {args : Array Value} {s : State} (h : (Cond.arrayClass .boolean).before args s = true) : ∃ cB : ClassId, ArrOfT s cB .boolean ∧ va_RA s cB .boolean := by
  obtain ⟨c, k, comp, h1, h2, h3⟩ := Cond.arrayClass_spec h
  exact ⟨c, fun N z => ⟨(fun k h => by cases h), k, h2, comp, h3⟩, h1⟩
theorem kx_start {args : Array Value} {s : State} (hts : ∀ w ∈ lw_tbl, w.before args s = true) : ∃ (D : va_G) (cA : Nat → ClassId), KX D cA s := by
  have h0 : ∀ w ∈ T0, w.before args s = true := fun w hw => hts w (List.mem_filter.mp hw).1
  obtain ⟨c0, i0, k0⟩ := u_known (C := RX0) (T := TX0) (N := 11) (n := 11) h0 inUX0 (h0 _ wjX0)
  obtain ⟨c1, i1, k1⟩ := u_known (C := RX1) (T := TX1) (N := 6) (n := 6) h0 inUX1 (h0 _ wjX1)
  obtain ⟨c2, i2, k2⟩ := u_known (C := RX2) (T := TX2) (N := 4) (n := 4) h0 inUX2 (h0 _ wjX2)
  obtain ⟨c3, i3, k3⟩ := u_known (C := RX3) (T := TX3) (N := 12) (n := 12) h0 inUX3 (h0 _ wjX3)
  obtain ⟨c4, i4, k4⟩ := u_known (C := RX4) (T := TX4) (N := 5) (n := 5) h0 inUX4 (h0 _ wjX4)
  obtain ⟨c5, i5, k5⟩ := u_known (C := RX5) (T := TX5) (N := 30) (n := 30) h0 inUX5 (h0 _ wjX5)
  obtain ⟨a0, b0⟩ := arr_int (h0 _ wa_int)
  obtain ⟨a1, b1⟩ := arr_long (h0 _ wa_long)
  obtain ⟨a2, b2⟩ := arr_bool (h0 _ wa_boolean)
  obtain ⟨a3, b3⟩ := arr_obj (hts _ wo_Mark)
  obtain ⟨a4, b4⟩ := arr_obj (hts _ wo_Solve)
  refine ⟨(fun k => match k with | 0 => c0 | 1 => c1 | 2 => c2 | 3 => c3 | 4 => c4 | _ => c5, fun k => match k with | 0 => i0 | 1 => i1 | 2 => i2 | 3 => i3 | 4 => i4 | _ => i5), fun k => match k with | 0 => a0 | 1 => a1 | 2 => a2 | 3 => a3 | _ => a4, ⟨fun c q hq => ?_, fun k q hk => ?_⟩, ⟨va_Nw.of rfl (hts _ wxX4_9), va_Nw.of rfl (hts _ wxX0_101), va_Nw.of rfl (hts _ wxX0_105), va_Nw.of rfl (hts _ wxX0_121), va_Nw.of rfl (hts _ wxX3_138), va_Nw.of rfl (hts _ wxX3_18)⟩, va_AO.of (hts _ wo_Mark), va_AO.of (hts _ wo_Solve)⟩
  · match c, hq with
    | 0, hq => cases hq; exact k0
    | 1, hq => cases hq; exact k1
    | 2, hq => cases hq; exact k2
    | 3, hq => cases hq; exact k3
    | 4, hq => cases hq; exact k4
    | 5, hq => cases hq; exact k5
    | c + 6, hq => simp [vwCl] at hq
  · match k, hk with
    | 0, hk => cases hk; exact b0
    | 1, hk => cases hk; exact b1
    | 2, hk => cases hk; exact b2
    | 3, hk => cases hk; exact b3
    | 4, hk => cases hk; exact b4
    | k + 5, hk => simp [xt] at hk
theorem le5 {a L : Nat} (ha : a < 2 ^ 30) (hL : L ≤ 2560) (h : ¬ nI L - nI 5 < nI a) : a + 5 ≤ L := by
  rw [Int32.lt_iff_toInt_lt, pk_sub_toInt (by omega) (by decide), nI_toInt (by omega)] at h
  omega
theorem RelW.T {cA : Nat → ClassId} {T T2 ax ar : Nat} {ws : va_W} (h : RelW cA T ax ar ws) (hT : T ≤ T2) : RelW cA T2 ax ar ws := by
  obtain ⟨AD, TT, JJ, OP, LL, ns, cnt, cw, ko, h1, h2, h3, h4⟩ := h
  exact ⟨AD, TT, JJ, OP, LL, ns, cnt, cw, ko, h1.T hT, h2, h3, h4⟩
theorem x_end {p : Program} {l : Launch} {e : Env} {s : State} {m : MethodId} {below : List Frame} {meth : Method} {c : Code} {b cells slots : Nat} {D : va_G} {cA : Nat → ClassId} {lv : List (Nat × Value)} {ws : va_W} (F : Fx p m c cL_law 4 s #[Value.ref b] RL meth ret D cA (fun q => s.heap.size ≤ q)) (h1 : cells ≤ 600000) (h2 : slots ≤ 7302250) : Wx p l e room_1 s m #[Value.ref b] below meth c cells slots (lw_Z below #[Value.ref b] s) 4 D (fun q => s.heap.size ≤ q) 894 lv [.int 1] ws := fun H locs ls hP hD hS hl => va_forget (fun q hq => hS.2.2 q hq) (W.widen h1 h2 (lw_ret F.1.1 F.1.2.1 F.2.2.2.1 F.2.2.2.2 dL_law_894))
set_option maxHeartbeats 4000000 in
theorem law_loop {p : Program} {l : Launch} {e : Env} {s : State} {m : MethodId} {below : List Frame} {meth : Method} {c : Code} {b L : Nat} {xs : Nat → Int32} {D : va_G} {cA : Nat → ClassId} (F : Fx p m c cL_law 4 s #[Value.ref b] RL meth ret D cA (fun q => s.heap.size ≤ q)) (hX : va_X b L xs s s.heap) (hbl : b < s.heap.size) (hbA : ¬ (fun q => s.heap.size ≤ q) b) (hL : L ≤ 2560) (ax ar : Nat) : ∀ (fuel n : Nat) (ws : va_W), n ≤ 513 → L + 5 - 5 * n < fuel → RelW cA (200 * n) ax ar ws → Wx p l e room_1 s m #[Value.ref b] below meth c (60 + 20 * n) (3000 + 200 * n) (lw_Z below #[Value.ref b] s) 4 D (fun q => s.heap.size ≤ q) 18 [(0, .ref b), (1, .ref ax), (2, .ref ar), (3, .int (nI (5 * n)))] [] ws := by
  intro fuel
  induction fuel with
  | zero => intro n ws _ h _; exact absurd h (Nat.not_lt_zero _)
  | succ fuel ih =>
    intro n ws hn hm hR
    refine x_iload_n F 3 dL_law_18 rfl ?_
    refine x_aload_n F 0 dL_law_19 rfl ?_
    refine x_slen F hX hbl hbA dL_law_20 ?_
    refine x_iconst F (nI 5) dL_law_21 (by decide +kernel) ?_
    refine x_isub F (nI L - nI 5) dL_law_22 rfl ?_
    refine x_icmp_gt F 893 dL_law_23 (by decide) (fun h23 => ?_) (fun h23 => ?_)
    · refine x_iconst F 1 dL_law_893 (by decide +kernel) ?_
      exact x_end F (by omega) (by omega)
    · have h5 := le5 (by omega) hL h23
      have back : ∀ ws2, RelW cA (200 * n + 200) ax ar ws2 → Wx p l e room_1 s m #[Value.ref b] below meth c (60 + 20 * n + 20) (3000 + 200 * n + 200) (lw_Z below #[Value.ref b] s) 4 D (fun q => s.heap.size ≤ q) 887 [(0, .ref b), (1, .ref ax), (2, .ref ar), (3, .int (nI (5 * n)))] [] ws2 := by
        intro ws2 hR2
        refine x_iinc F (nI (5 * (n + 1))) 3 [(3, .int (nI (5 * (n + 1)))), (0, .ref b), (1, .ref ax), (2, .ref ar)] dL_law_887 rfl (nI_add (5 * n) 5) (by decide) rfl ?_
        refine x_goto F 18 dL_law_890 (by decide) ?_
        refine x_lv [(0, .ref b), (1, .ref ax), (2, .ref ar), (3, .int (nI (5 * (n + 1))))] [1, 2, 3, 0] rfl ?_
        exact x_widen (by omega) (by omega) (ih (n + 1) ws2 (by omega) (by omega) (hR2.T (by omega)))
      refine x_aload_n F 0 dL_law_26 rfl ?_
      refine x_iload_n F 3 dL_law_27 rfl ?_
      refine x_sld F hX hbl hbA (k := 5 * n) (by omega) (by omega) dL_law_28 ?_
      refine x_bipush F (nI 31) dL_law_29 (by decide +kernel) ?_
      refine x_iand F (xs (5 * n) &&& nI 31) dL_law_31 rfl ?_
      obtain ⟨j, hj, ej⟩ := pk_andE (xs (5 * n)) (m := nI 31) 5 (by decide +kernel)
      refine x_top (nI j) ej ?_
      have hcs : j = 0 ∨ j = 1 ∨ j = 2 ∨ j = 3 ∨ j = 4 ∨ j = 5 ∨ j = 6 ∨ j = 7 ∨ j = 8 ∨ j = 9 ∨ j = 10 ∨ j = 11 ∨ j = 12 ∨ j = 13 ∨ j = 14 ∨ j = 15 ∨ j = 16 ∨ j = 17 ∨ j = 18 ∨ 19 ≤ j := by omega
      rcases hcs with rfl | rfl | rfl | rfl | rfl | rfl | rfl | rfl | rfl | rfl | rfl | rfl | rfl | rfl | rfl | rfl | rfl | rfl | rfl | hj2
      · exact x_tableIn F 124 dL_law_32 (by decide +kernel) (by decide +kernel) (off := 92) (by decide +kernel) (by decide) (LC_come F hX hbl hbA hL h5 hR ⟨by omega, by omega⟩ (by omega) back)
      · exact x_tableIn F 167 dL_law_32 (by decide +kernel) (by decide +kernel) (off := 135) (by decide +kernel) (by decide) (LC_go F hX hbl hbA hL h5 hR ⟨by omega, by omega⟩ (by omega) back)
      · exact x_tableIn F 190 dL_law_32 (by decide +kernel) (by decide +kernel) (off := 158) (by decide +kernel) (by decide) (LC_turn F hX hbl hbA hL h5 hR ⟨by omega, by omega⟩ (by omega) back)
      · exact x_tableIn F 243 dL_law_32 (by decide +kernel) (by decide +kernel) (off := 211) (by decide +kernel) (by decide) (LC_size F hX hbl hbA hL h5 hR ⟨by omega, by omega⟩ (by omega) back)
      · exact x_tableIn F 276 dL_law_32 (by decide +kernel) (by decide +kernel) (off := 244) (by decide +kernel) (by decide) (LC_apart F hX hbl hbA hL h5 hR ⟨by omega, by omega⟩ (by omega) back)
      · exact x_tableIn F 335 dL_law_32 (by decide +kernel) (by decide +kernel) (off := 303) (by decide +kernel) (by decide) (LC_lock F hX hbl hbA hL h5 hR ⟨by omega, by omega⟩ (by omega) back)
      · exact x_tableIn F 368 dL_law_32 (by decide +kernel) (by decide +kernel) (off := 336) (by decide +kernel) (by decide) (LC_free F hX hbl hbA hL h5 hR ⟨by omega, by omega⟩ (by omega) back)
      · exact x_tableIn F 391 dL_law_32 (by decide +kernel) (by decide +kernel) (off := 359) (by decide +kernel) (by decide) (LC_solve F hX hbl hbA hL h5 hR ⟨by omega, by omega⟩ (by omega) back)
      · exact x_tableIn F 424 dL_law_32 (by decide +kernel) (by decide +kernel) (off := 392) (by decide +kernel) (by decide) (LC_take F hX hbl hbA hL h5 hR ⟨by omega, by omega⟩ (by omega) back)
      · exact x_tableIn F 457 dL_law_32 (by decide +kernel) (by decide +kernel) (off := 425) (by decide +kernel) (by decide) (LC_step F hX hbl hbA hL h5 hR ⟨by omega, by omega⟩ (by omega) back)
      · exact x_tableIn F 490 dL_law_32 (by decide +kernel) (by decide +kernel) (off := 458) (by decide +kernel) (by decide) (LC_mark F hX hbl hbA hL h5 hR ⟨by omega, by omega⟩ (by omega) back)
      · exact x_tableIn F 523 dL_law_32 (by decide +kernel) (by decide +kernel) (off := 491) (by decide +kernel) (by decide) (LC_back F hX hbl hbA hL h5 hR ⟨by omega, by omega⟩ (by omega) back)
      · exact x_tableIn F 556 dL_law_32 (by decide +kernel) (by decide +kernel) (off := 524) (by decide +kernel) (by decide) (LC_room F hX hbl hbA hL h5 hR ⟨by omega, by omega⟩ (by omega) back)
      · exact x_tableIn F 615 dL_law_32 (by decide +kernel) (by decide +kernel) (off := 583) (by decide +kernel) (by decide) (LC_score F hX hbl hbA hL h5 hR ⟨by omega, by omega⟩ (by omega) back)
      · exact x_tableIn F 690 dL_law_32 (by decide +kernel) (by decide +kernel) (off := 658) (by decide +kernel) (by decide) (LC_scoreBy F hX hbl hbA hL h5 hR ⟨by omega, by omega⟩ (by omega) back)
      · exact x_tableIn F 775 dL_law_32 (by decide +kernel) (by decide +kernel) (off := 743) (by decide +kernel) (by decide) (LC_same F hX hbl hbA hL h5 hR ⟨by omega, by omega⟩ (by omega) back)
      · exact x_tableIn F 808 dL_law_32 (by decide +kernel) (by decide +kernel) (off := 776) (by decide +kernel) (by decide) (LC_told F hX hbl hbA hL h5 hR ⟨by omega, by omega⟩ (by omega) back)
      · exact x_tableIn F 841 dL_law_32 (by decide +kernel) (by decide +kernel) (off := 809) (by decide +kernel) (by decide) (LC_fact F hX hbl hbA hL h5 hR ⟨by omega, by omega⟩ (by omega) back)
      · exact x_tableIn F 864 dL_law_32 (by decide +kernel) (by decide +kernel) (off := 832) (by decide +kernel) (by decide) (LC_change F hX hbl hbA hL h5 hR ⟨by omega, by omega⟩ (by omega) back)
      · refine x_tableOut F 887 dL_law_32 (by rw [nI_toInt (by omega)]; omega) (by decide) ?_
        exact x_widen (by omega) (by omega) (back ws (hR.T (by omega)))
def ad0 (a0 a1 a2 a3 ar : Nat → Nat) : Nat → Nat → Nat := fun i => match i with
  | 0 => a0 | 1 => a1 | 2 => a2 | 3 => a3 | _ => ar
def tt0 : Nat → Nat → Nat → Int32 := fun i => match i with
  | 2 => clr (fun _ _ => 0) | 3 => clr (fun _ _ => 0) | 4 => fgS (fun _ _ => 0) 4 6 | _ => fun _ _ => 0
theorem rel0 (cA : Nat → ClassId) (a0 a1 a2 a3 ar : Nat → Nat) : RelW cA 0 (a0 100) (ar 100) ((wX cA a0 (a1 100) (a2 100) (a3 100) (fun _ _ => 0) (fun _ => none) ++ wL cA a1 (fun _ _ => 0) ++ wF cA a2 (clr (fun _ _ => 0)) ++ wF cA a3 (clr (fun _ _ => 0))) ++ wR cA ar (fgS (fun _ _ => 0) 4 6)) := by
  refine ⟨ad0 a0 a1 a2 a3 ar, tt0, fun _ _ _ => 0, fun _ _ => none, fun _ => 0, 0, 0, 0, 0, ⟨⟨by omega, rfl, ?_, fun i hi => absurd hi (Nat.not_lt_zero _), fun i hi => absurd hi (Nat.not_lt_zero _), fun i hi => absurd hi (Nat.not_lt_zero _)⟩, ⟨?_, FR.rf _, (fgS_slc _ _ 4).sy⟩, ⟨?_, ?_, by omega, fun j hj z => absurd ?_ z⟩, ⟨?_, Nat.le_refl _, FR.rf _⟩, ⟨by omega, rfl, ?_⟩, fun s hs => absurd hs (Nat.not_lt_zero _)⟩, ?_, rfl, rfl⟩
  · show fgS (fun _ _ => 0) 4 6 0 0 = nI 0
    rw [fgS_o _ _ _ _ (Or.inl (by decide))]; rfl
  · show clr (fun _ _ => 0) 0 0 = nI 0
    simp [clr]
  · show clr (fun _ _ => 0) 1 0 = nI 0
    simp [clr]
  · show fgS (fun _ _ => 0) 4 6 13 0 = nI 0
    rw [fgS_o _ _ _ _ (Or.inr (by decide))]; rfl
  · show clr (fun _ _ => 0) 2 j = 0
    simp [clr, hj, nI_0]
  · show clr (fun _ _ => 0) 0 0 = nI 0
    simp [clr]
  · show fgS (fun _ _ => 0) 4 6 17 0 = nI 0
    rw [fgS_o _ _ _ _ (Or.inr (by decide))]; rfl
  · show List.Perm _ ((wX cA a0 (a1 100) (a2 100) (a3 100) (fun _ _ => 0) (fun _ => none) ++ wL cA a1 (fun _ _ => 0) ++ wF cA a2 (clr (fun _ _ => 0)) ++ wF cA a3 (clr (fun _ _ => 0))) ++ [] ++ wR cA ar (fgS (fun _ _ => 0) 4 6))
    rw [List.append_nil]
set_option maxHeartbeats 4000000 in
set_option maxRecDepth 100000 in
theorem whole_start {p : Program} {e : Env} {s : State} {m : MethodId} {below : List Frame} {meth : Method} {c : Code} (l : Launch) {b L : Nat} {xs : Nat → Int32} (hL : L ≤ 2560) (C0 : lw_At p s m meth c b L xs) : W p l e room_1 s m #[Value.ref b] below meth c s.heap [] 0 0 (lw_Z below #[Value.ref b] s) (entryFrame m ([Value.ref b] : List Value).toArray 4) := by
  obtain ⟨hx, hb, hr, hml, hown, hts, hX, hbl, hlocks, hgv⟩ := id C0
  obtain ⟨D, cA, hK⟩ := kx_start hts
  have F : Fx p m c cL_law 4 s #[Value.ref b] RL meth ret D cA (fun q => s.heap.size ≤ q) := ⟨⟨hx, hb, hml, hown, fun w hw => hts w (List.mem_filter.mp hw).1⟩, hK, fun q h => h, hr, hlocks⟩
  have hbA : ¬ (fun q : Nat => s.heap.size ≤ q) b := Nat.not_le.mpr hbl
  have hP : va_P D vwCl [] s.heap := fun k q h => by simp at h
  have hD : va_D (fun q : Nat => s.heap.size ≤ q) [] := ⟨fun i j p q h => by simp at h, fun k q h => by simp at h⟩
  have hl := lv_entry ([.ref b]) (n := 4) (Nat.le_of_ble_eq_true rfl)
  rw [lg_entry_eq]
  refine (show Wx p l e room_1 s m #[Value.ref b] below meth c 0 0 (lw_Z below #[Value.ref b] s) 4 D (fun q => s.heap.size ≤ q) 0 [(0, .ref b)] [] [] from ?_) s.heap [] _ hP hD va_S.rf hl
  refine x_new F [.null, .null, .null, .null, .int 0] inUX4 tyX4_ok wkL_7 wjX4 wnX4 (ci := 4) rfl (by intro j hj; match j, hj with | 0, _ => rfl | 1, _ => rfl | 2, _ => rfl | 3, _ => rfl | 4, _ => rfl | j + 5, h => omega) (by show _ ≤ 600000; omega) (by show _ ≤ 7302250; omega) dL_law_0 (fun q1 => ?_)
  refine x_ws ([(q1, .inr (4, [.null, .null, .null, .null, .int 0]))] : va_W) rfl ?_
  refine x_dup F dL_law_3 rfl ?_
  refine x_callI F [.ref q1] [] [0] [] (c_X4_init l D cA q1) mwX4_init wmL_9 rfl rfl (Nat.le_of_ble_eq_true rfl) ⟨by decide, by decide⟩ ⟨by show _ ≤ 600000; omega, by show _ ≤ 7302250; omega⟩ rfl rfl (by decide) (by decide) (by decide) dL_law_4 (fun r1 u hp => ?_)
  obtain ⟨a0, a1, a2, a3⟩ := u
  obtain ⟨rfl, h100⟩ := hp
  have h100 : a0 100 = q1 := h100
  subst h100
  refine x_ws (wX cA a0 (a1 100) (a2 100) (a3 100) (fun _ _ => 0) (fun _ => none) ++ wL cA a1 (fun _ _ => 0) ++ wF cA a2 (clr (fun _ _ => 0)) ++ wF cA a3 (clr (fun _ _ => 0))) rfl ?_
  refine x_st [.ref (a0 100)] rfl ?_
  refine x_astore_n F [(1, .ref (a0 100)), (0, .ref b)] dL_law_7 (by decide) rfl ?_
  refine x_new F [.int 0, .null, .null, .null, .null, .null, .null, .null, .null, .null, .null, .null, .null, .int 0, .null, .int 0, .int 0, .int 0, .null, .null, .null, .null, .null, .null, .null, .null, .null, .null, .null, .null] inUX5 tyX5_ok wkL_10 wjX5 wnX5 (ci := 5) rfl (by intro j hj; match j, hj with | 0, _ => rfl | 1, _ => rfl | 2, _ => rfl | 3, _ => rfl | 4, _ => rfl | 5, _ => rfl | 6, _ => rfl | 7, _ => rfl | 8, _ => rfl | 9, _ => rfl | 10, _ => rfl | 11, _ => rfl | 12, _ => rfl | 13, _ => rfl | 14, _ => rfl | 15, _ => rfl | 16, _ => rfl | 17, _ => rfl | 18, _ => rfl | 19, _ => rfl | 20, _ => rfl | 21, _ => rfl | 22, _ => rfl | 23, _ => rfl | 24, _ => rfl | 25, _ => rfl | 26, _ => rfl | 27, _ => rfl | 28, _ => rfl | 29, _ => rfl | j + 30, h => omega) (by show _ ≤ 600000; omega) (by show _ ≤ 7302250; omega) dL_law_8 (fun q2 => ?_)
  refine x_dup F dL_law_11 rfl ?_
  refine x_callI F [.ref q2] (wX cA a0 (a1 100) (a2 100) (a3 100) (fun _ _ => 0) (fun _ => none) ++ wL cA a1 (fun _ _ => 0) ++ wF cA a2 (clr (fun _ _ => 0)) ++ wF cA a3 (clr (fun _ _ => 0))) [28] [0, 1, 2, 3, 4, 5, 6, 7, 8, 9, 10, 11, 12, 13, 14, 15, 16, 17, 18, 19, 20, 21, 22, 23, 24, 25, 26, 27] (c_X5_init l D cA q2) mwX5_init wmL_12 rfl rfl (Nat.le_of_ble_eq_true rfl) ⟨by decide, by decide⟩ ⟨by show _ ≤ 600000; omega, by show _ ≤ 7302250; omega⟩ rfl rfl (by decide) (by decide) (by decide) dL_law_12 (fun r2 ar hp2 => ?_)
  obtain ⟨rfl, h101⟩ := hp2
  subst h101
  refine x_st [.ref (ar 100)] rfl ?_
  refine x_astore_n F [(2, .ref (ar 100)), (1, .ref (a0 100)), (0, .ref b)] dL_law_15 (by decide) rfl ?_
  refine x_iconst F (nI 0) dL_law_16 (by decide +kernel) ?_
  refine x_istore_n F [(3, .int (nI 0)), (2, .ref (ar 100)), (1, .ref (a0 100)), (0, .ref b)] dL_law_17 (by decide) rfl ?_
  refine x_lv [(0, .ref b), (1, .ref (a0 100)), (2, .ref (ar 100)), (3, .int (nI (5 * 0)))] [3, 2, 1, 0] rfl ?_
  exact x_widen (by omega) (by omega) (law_loop F hX hbl hbA hL (a0 100) (ar 100) (L + 6) 0 _ (by omega) (by omega) (rel0 cA a0 a1 a2 a3 ar))
