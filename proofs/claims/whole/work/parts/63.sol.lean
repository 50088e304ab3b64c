/-! pairs of calls: solves, what only reads -/
theorem sol_nat {x : Int32} {ns : Nat} (hn : ns ≤ 3) (h : nI 0 ≤ x ∧ x ≤ nI ns - nI 1) : ∃ s, s < ns ∧ x = nI s := by
  have h0 : ¬ x < 0 := by
    have := h.1
    rw [nI_0] at this
    exact Int32.not_lt.mpr this
  obtain ⟨j, hj, rfl⟩ := nI_of h0
  exact ⟨j, (in_came hj (by omega)).mp h, rfl⟩
/-- the solve s out of the world -/
theorem wAll_s (cA : Nat → ClassId) (AD : Nat → Nat → Nat) (TT : Nat → Nat → Nat → Int32) (JJ : Nat → Nat → Nat → Int64) (OP : Nat → Nat → Option Nat) (LL : Nat → Nat) {s ns : Nat} (hs : s < ns) : (wAll cA AD TT JJ OP LL ns).Perm (wX cA (AD 0) (AD 1 100) (AD 2 100) (AD 3 100) (TT 0) (OP 0) ++ wL cA (AD 1) (TT 1) ++ wF cA (AD 2) (TT 2) ++ wF cA (AD 3) (TT 3) ++ wS cA (AD (10 + s)) (AD (20 + s) 100) (LL s) (TT (10 + s)) (JJ (10 + s)) (OP (10 + s)) ++ wF cA (AD (20 + s)) (TT (20 + s)) ++ wMk cA AD TT JJ OP LL s 0 ++ wMk cA AD TT JJ OP LL s 1 ++ wRs cA AD TT JJ OP LL s ns ++ wR cA (AD 4) (TT 4)) := by
  have h1 := sv_split cA AD TT JJ OP LL hs
  exact pmc (fun f h h0 hq => by have e1 := hq _ _ h1; simp only [wAll, wXX, wOne, h] at e1 ⊢; omega)
theorem wCl_op (cA : Nat → ClassId) (AD : Nat → Nat → Nat) (TT : Nat → Nat → Nat → Int32) (JJ : Nat → Nat → Nat → Int64) (OP : Nat → Nat → Option Nat) (LL : Nat → Nat) {s ns : Nat} (hs : s < ns) (hn3 : ns ≤ 3) (σ : SJM) : (wCl cA AD (va_up (va_up TT (10 + s) σ.1) (20 + s) σ.2.2) (va_up JJ (10 + s) σ.2.1) OP LL ns).Perm (wX cA (AD 0) (AD 1 100) (AD 2 100) (AD 3 100) (TT 0) (OP 0) ++ wL cA (AD 1) (TT 1) ++ wF cA (AD 2) (TT 2) ++ wF cA (AD 3) (TT 3) ++ wS cA (AD (10 + s)) (AD (20 + s) 100) (LL s) σ.1 σ.2.1 (OP (10 + s)) ++ wF cA (AD (20 + s)) σ.2.2 ++ wMk cA AD TT JJ OP LL s 0 ++ wMk cA AD TT JJ OP LL s 1 ++ wRs cA AD TT JJ OP LL s ns) := by
  obtain ⟨TU, eU⟩ : ∃ z, z = va_up (va_up TT (10 + s) σ.1) (20 + s) σ.2.2 := ⟨_, rfl⟩
  obtain ⟨JU, eJ⟩ : ∃ z, z = va_up JJ (10 + s) σ.2.1 := ⟨_, rfl⟩
  have uo : ∀ i, i ≠ 10 + s → i ≠ 20 + s → TU i = TT i := fun i y z => by rw [eU]; simp only [va_up]; rw [if_neg z, if_neg y]
  have u1 : TU (10 + s) = σ.1 := by rw [eU]; simp only [va_up]; rw [if_neg (by omega), if_pos trivial]
  have u2 : TU (20 + s) = σ.2.2 := by rw [eU]; exact if_pos rfl
  have jo : ∀ i, i ≠ 10 + s → JU i = JJ i := fun i y => by rw [eJ]; exact if_neg y
  have j1 : JU (10 + s) = σ.2.1 := by rw [eJ]; exact if_pos rfl
  rw [← eU, ← eJ]
  have h1 := sv_split cA AD TU JU OP LL hs
  rw [wRs_cg (AD := AD) (TT := TT) (JJ := JJ) (OP := OP) (LL := LL) (fun v _ hne => by unfold wOne wMk; rw [uo (10 + v) (by omega) (by omega), uo (20 + v) (by omega) (by omega), uo (30 + 2 * v + 0) (by omega) (by omega), uo (30 + 2 * v + 1) (by omega) (by omega), jo (10 + v) (by omega), jo (30 + 2 * v + 0) (by omega), jo (30 + 2 * v + 1) (by omega)])] at h1
  have h2 : wOne cA AD TU JU OP LL s = wS cA (AD (10 + s)) (AD (20 + s) 100) (LL s) σ.1 σ.2.1 (OP (10 + s)) ++ wF cA (AD (20 + s)) σ.2.2 ++ wMk cA AD TT JJ OP LL s 0 ++ wMk cA AD TT JJ OP LL s 1 := by
    unfold wOne wMk
    rw [u1, u2, j1, uo (30 + 2 * s + 0) (by omega) (by omega), uo (30 + 2 * s + 1) (by omega) (by omega), jo (30 + 2 * s + 0) (by omega), jo (30 + 2 * s + 1) (by omega)]
  rw [h2] at h1
  unfold wCl wXX
  rw [uo 0 (by omega) (by omega), uo 1 (by omega) (by omega), uo 2 (by omega) (by omega), uo 3 (by omega) (by omega)]
  exact pmc (fun f h h0 hq => by have e1 := hq _ _ h1; simp only [h] at e1 ⊢; omega)
section P2
variable {p : Program} {l : Launch} {e : Env} {s : State} {m : MethodId} {args : Array Value} {below : List Frame} {meth : Method} {c : Code} {cells slots : Nat} {Q : State → Prop} {cc : ByteArray} {nL : Nat} {own : String} {ret : Option FieldType} {D : va_G} {cA : Nat → ClassId} {A : Nat → Prop} {pc : Nat} {lv : List (Nat × Value)} {rest : List Value} {ws : va_W}
theorem P_take {T ax ar index : Nat} (F : Fx p m c cc nL s args own meth ret D cA A) (hR : RelW cA T ax ar ws) (a1 a2 : Int32) (hl : Cond.methodLink own index yX4_take ∈ T0) (d : decode cc pc = .ok (.invokevirtual index, 3)) (hcat : (rest.map fun v => v.category).sum ≤ 8) (hc : cells + 20 ≤ 600000 ∧ slots + 200 ≤ 7302250) (kk : ∀ x ws2, RQ p l e s m args below meth c Q nL D A cc own cA (T + 200) ax ar yX5_take [.int a1, .int a2] x ws2 → Wx p l e room_1 s m args below meth c (cells + 20) (slots + 200) Q nL D A (pc + 3) lv (.int x :: rest) ws2) : Wx p l e room_1 s m args below meth c cells slots Q nL D A pc lv (.int a2 :: .int a1 :: .ref ax :: rest) ws := by
  obtain ⟨AD, TT, JJ, OP, LL, ns, cnt, cw, ko, hRel, hp, rfl, rfl⟩ := hR
  obtain ⟨⟨hcn, hcC, hcR, hLG⟩, ⟨hk2, hF2, hF4⟩, ⟨hcw, hcwR, hcw16, hth⟩, ⟨hko, hkoc, hFo⟩, ⟨hn3, hns, hnsR⟩, hS⟩ := id hRel
  by_cases c0 : nI 0 ≤ a1 ∧ a1 ≤ nI ns - nI 1
  case neg =>
    exact PRO F hRel hp (wL cA (AD 1) (TT 1) ++ wF cA (AD 2) (TT 2) ++ wF cA (AD 3) (TT 3) ++ wSv cA AD TT JJ OP LL ns ++ wR cA (AD 4) (TT 4)) (pmc (fun f h h0 hq => by simp only [wAll, wXX, h]; omega)) (c_X4_take_b0 l D cA (AD 0) (AD 1 100) (AD 2 100) (AD 3 100) (TT 0) (OP 0) a1 a2 (by rw [hns]; exact c0)) mwX4_take rfl ⟨by decide, by decide⟩ rfl (c_X5_take_b0 l D cA (AD 4) (TT 4) a1 a2 (by rw [hnsR]; exact c0)) mwX5_take rfl ⟨by decide, by decide⟩ (fun r hr => ⟨(-2), hr, fun r2 h2 => h2⟩) hl d hcat hc kk
  obtain ⟨s0, hs, rfl⟩ := sol_nat hn3 c0
  obtain ⟨ha, ⟨hL1, hL8⟩, ⟨k0, t0, hk0, ht0, hCF⟩, hMK⟩ := hS s0 hs
  have hs3 : s0 < 3 := by omega
  by_cases c1 : nI 0 ≤ a2 ∧ a2 ≤ nI cnt
  case neg =>
    exact PRO F hRel hp (wF cA (AD 2) (TT 2) ++ wF cA (AD 3) (TT 3) ++ wSv cA AD TT JJ OP LL ns ++ wR cA (AD 4) (TT 4)) (pmc (fun f h h0 hq => by simp only [wAll, wXX, h]; omega)) (c_X4_take_b1 l D cA (AD 0) (AD 2 100) (AD 3 100) (TT 0) (OP 0) ns s0 (AD (10 + s0)) (AD 1) (TT 1) a2 hns hn3 hs ha (by rw [hcC]; exact c1)) mwX4_take rfl ⟨by decide, by decide⟩ rfl (c_X5_take_b1 l D cA (AD 4) (TT 4) ns s0 a2 hnsR hn3 hs (by rw [hcR]; exact c1)) mwX5_take rfl ⟨by decide, by decide⟩ (fun r hr => ⟨(-2), hr, fun r2 h2 => h2⟩) hl d hcat hc kk
  obtain ⟨n0, hn0, rfl⟩ := wn (n := cnt) (by omega) c1
  have hCF2 := hCF
  obtain ⟨-, -, -, -, -, ⟨h00, h18⟩, h21⟩ := hCF2
  refine PC_of F (wF cA (AD 2) (TT 2) ++ wF cA (AD 3) (TT 3) ++ wMk cA AD TT JJ OP LL s0 0 ++ wMk cA AD TT JJ OP LL s0 1 ++ wRs cA AD TT JJ OP LL s0 ns ++ wR cA (AD 4) (TT 4)) (c_X4_take l D cA (AD 0) (AD 2 100) (AD 3 100) (TT 0) (OP 0) (AD 1) (TT 1) (AD (10 + s0)) (LL s0) (TT (10 + s0)) (JJ (10 + s0)) (OP (10 + s0)) (AD (20 + s0)) (TT (20 + s0)) ns s0 n0 k0 cnt hns hn3 hs ha hcC hcn h00 hk0 hLG.2.1 hn0 (by omega)) mwX4_take rfl ⟨by decide, by decide⟩ ⟨by decide, by decide⟩ rfl (hp.trans ((wAll_s cA AD TT JJ OP LL hs).trans (pmc (fun f h h0 hq => by simp only [h]; omega)))) hl d hcat hc (fun r u hpo => ?_) kk
  obtain ⟨rfl, eu⟩ := hpo
  refine ⟨_, rfl, RQ_of F AD (va_up (va_up TT (10 + s0) u.1) (20 + s0) u.2.2) (va_up JJ (10 + s0) u.2.1) OP LL ns (TT 4) (c_X5_take_ok l D cA (AD 4) (TT 4) ns s0 n0 k0 cnt (LL s0) hnsR hn3 hs hcR hcn h18 hk0 hLG.wf h21 hL8 hn0) mwX5_take rfl ⟨by decide, by decide⟩ (pmc (fun f h h0 hq => by have e1 := hq _ _ (wCl_op cA AD TT JJ OP LL hs hn3 u); simp only [h] at e1 ⊢; omega)) (fun r2 u2 hp2 => ?_)⟩
  obtain ⟨rfl, eu2⟩ := hp2
  refine ⟨rfl, cnt, cw, ko, ?_⟩
  by_cases z : n0 ≤ k0
  · rw [if_pos z] at eu eu2
    subst eu eu2
    exact hRel.op (by omega) hs hk0 (by omega) (TT (10 + s0), JJ (10 + s0), TT (20 + s0)) (TT 4) hCF (SK.rf _ _) (fun _ _ _ => rfl)
  · rw [if_neg z] at eu eu2
    subst eu eu2
    exact hRel.op (by omega) hs hn0 (by omega) _ _ (hCF.cat hs3 (by omega) (hLG.le hn0)) (SK.cat hs3 (by omega) hL8 (fun i hi => hLG.wf i (by omega))) (mr_cat hs3 (by omega) (fun i hi => hLG.wf i (by omega)))
theorem cuS_ok {G N : Nat → Nat → Int32} {s k cnt L t : Nat} {σ : SJM} (hs : s < 3) (hk : k ≤ cnt) (hL : L ≤ 8) (hl : LG G N cnt) (h : CF G s k L t σ N) : CF G s cnt L t (cuS G k cnt L σ) (cuA N s k cnt L) ∧ SK s N (cuA N s k cnt L) ∧ (∀ r i, mreg s r i → cuA N s k cnt L r i = N r i) := by
  unfold cuS cuA
  by_cases z : cnt ≤ k
  · rw [if_pos z, if_pos z]
    obtain rfl : k = cnt := by omega
    exact ⟨h, SK.rf _ _, fun _ _ _ => rfl⟩
  · rw [if_neg z, if_neg z]
    exact ⟨h.cat hs (by omega) hl, SK.cat hs (by omega) hL hl.wf, mr_cat hs (by omega) hl.wf⟩
theorem mvS_ok {G N : Nat → Nat → Int32} {s k L t : Nat} {σ : SJM} (h : CF G s k L t σ N) : CF G s k L t (mvS σ) N ∧ MV (fN G k) (mvS σ).1 ∧ mvc σ.2.2 16 = mvc (fN G k) 16 ∧ (mvS σ).1 10 0 = σ.1 10 0 := by
  obtain ⟨hq, hj, hc, ⟨h8, h19⟩, ⟨h9, h10⟩, ⟨h00, h18⟩, h21⟩ := h
  have o : ∀ r, r ≠ 5 → (mvS σ).1 r = σ.1 r := fun r hr => if_neg hr
  have em := mvc_fr hq.1 16 (Nat.le_refl _)
  refine ⟨⟨hq.mv (o 1 (by decide)) (o 2 (by decide)) (by rw [o 11 (by decide)]) (FR.rf _) (fun _ _ => rfl), ⟨?_, ?_⟩, hc, ⟨?_, h19⟩, ⟨?_, ?_⟩, ⟨h00, h18⟩, h21⟩, fun i hi => ?_, em, by rw [o 10 (by decide)]⟩
  · rw [o 1 (by decide)]; exact hj.1
  · rw [o 2 (by decide)]; exact hj.2
  · rw [o 8 (by decide)]; exact h8
  · rw [o 9 (by decide)]; exact h9
  · rw [o 10 (by decide)]; exact h10
  · have e5 : (mvS σ).1 5 = mvr σ.2.2 (σ.1 5) 16 := by
      show va_up σ.1 5 (mvr σ.2.2 (σ.1 5) 16) 5 = _
      simp [va_up]
    rw [e5]
    exact mvr_fr _ _ hq.1 16 (Nat.le_refl _) i (by rw [em]; exact hi)
theorem P_step {T ax ar index : Nat} (F : Fx p m c cc nL s args own meth ret D cA A) (hR : RelW cA T ax ar ws) (a1 a2 : Int32) (hl : Cond.methodLink own index yX4_step ∈ T0) (d : decode cc pc = .ok (.invokevirtual index, 3)) (hcat : (rest.map fun v => v.category).sum ≤ 8) (hc : cells + 20 ≤ 600000 ∧ slots + 200 ≤ 7302250) (hTT : T < 400000) (kk : ∀ x ws2, RQ p l e s m args below meth c Q nL D A cc own cA (T + 200) ax ar yX5_step [.int a1, .int a2] x ws2 → Wx p l e room_1 s m args below meth c (cells + 20) (slots + 200) Q nL D A (pc + 3) lv (.int x :: rest) ws2) : Wx p l e room_1 s m args below meth c cells slots Q nL D A pc lv (.int a2 :: .int a1 :: .ref ax :: rest) ws := by
  obtain ⟨AD, TT, JJ, OP, LL, ns, cnt, cw, ko, hRel, hp, rfl, rfl⟩ := hR
  obtain ⟨⟨hcn, hcC, hcR, hLG⟩, ⟨hk2, hF2, hF4⟩, ⟨hcw, hcwR, hcw16, hth⟩, ⟨hko, hkoc, hFo⟩, ⟨hn3, hns, hnsR⟩, hS⟩ := id hRel
  by_cases c0 : nI 0 ≤ a1 ∧ a1 ≤ nI ns - nI 1
  case neg =>
    exact PRO F hRel hp (wL cA (AD 1) (TT 1) ++ wF cA (AD 2) (TT 2) ++ wF cA (AD 3) (TT 3) ++ wSv cA AD TT JJ OP LL ns ++ wR cA (AD 4) (TT 4)) (pmc (fun f h h0 hq => by simp only [wAll, wXX, h]; omega)) (c_X4_step_b0 l D cA (AD 0) (AD 1 100) (AD 2 100) (AD 3 100) (TT 0) (OP 0) a1 a2 (by rw [hns]; exact c0)) mwX4_step rfl ⟨by decide, by decide⟩ rfl (c_X5_step_b0 l D cA (AD 4) (TT 4) a1 a2 (by rw [hnsR]; exact c0)) mwX5_step rfl ⟨by decide, by decide⟩ (fun r hr => ⟨(-2), hr, fun r2 h2 => h2⟩) hl d hcat hc kk
  obtain ⟨s0, hs, rfl⟩ := sol_nat hn3 c0
  obtain ⟨ha, ⟨hL1, hL8⟩, ⟨k0, t0, hk0, ht0, hCF⟩, hMK⟩ := hS s0 hs
  have hs3 : s0 < 3 := by omega
  by_cases c1 : nI 0 ≤ a2 ∧ a2 ≤ nI 200
  case neg =>
    exact PRO F hRel hp (wL cA (AD 1) (TT 1) ++ wF cA (AD 2) (TT 2) ++ wF cA (AD 3) (TT 3) ++ wSv cA AD TT JJ OP LL ns ++ wR cA (AD 4) (TT 4)) (pmc (fun f h h0 hq => by simp only [wAll, wXX, h]; omega)) (c_X4_step_b1 l D cA (AD 0) (AD 1 100) (AD 2 100) (AD 3 100) (TT 0) (OP 0) ns s0 (AD (10 + s0)) a2 hns hn3 hs ha c1) mwX4_step rfl ⟨by decide, by decide⟩ rfl (c_X5_step_b1 l D cA (AD 4) (TT 4) ns s0 a2 hnsR hn3 hs c1) mwX5_step rfl ⟨by decide, by decide⟩ (fun r hr => ⟨(-2), hr, fun r2 h2 => h2⟩) hl d hcat hc kk
  obtain ⟨n0, hn0, rfl⟩ := wn (n := 200) (by omega) c1
  have hCF2 := hCF
  obtain ⟨-, -, -, ⟨h8, h19⟩, -, ⟨h00, h18⟩, h21⟩ := hCF2
  obtain ⟨hC1, hK1, hm1⟩ := cuS_ok hs3 hk0 hL8 hLG hCF
  obtain ⟨hC2, hMV, emv, e10⟩ := mvS_ok hC1
  have hC3 := steps_ok hs3 (hLG.fb (Nat.le_refl _)) (by omega) hL8 hC2 hMV n0
  refine PC_of F (wF cA (AD 2) (TT 2) ++ wF cA (AD 3) (TT 3) ++ wMk cA AD TT JJ OP LL s0 0 ++ wMk cA AD TT JJ OP LL s0 1 ++ wRs cA AD TT JJ OP LL s0 ns ++ wR cA (AD 4) (TT 4)) (c_X4_step l D cA (AD 0) (AD 2 100) (AD 3 100) (TT 0) (OP 0) (AD 1) (TT 1) (AD (10 + s0)) (LL s0) (TT (10 + s0)) (JJ (10 + s0)) (OP (10 + s0)) (AD (20 + s0)) (TT (20 + s0)) ns s0 n0 k0 t0 cnt hns hn3 hs ha hcC hcn h00 hk0 hLG.2.1 hn0 h8 (by omega) (by omega) (by omega)) mwX4_step rfl ⟨by decide, by decide⟩ ⟨by decide, by decide⟩ rfl (hp.trans ((wAll_s cA AD TT JJ OP LL hs).trans (pmc (fun f h h0 hq => by simp only [h]; omega)))) hl d hcat hc (fun r u hpo => ?_) kk
  rw [emv] at hpo
  obtain ⟨rfl, eu⟩ := hpo
  refine ⟨_, rfl, RQ_of F AD (va_up (va_up TT (10 + s0) u.1) (20 + s0) u.2.2) (va_up JJ (10 + s0) u.2.1) OP LL ns (TT 4) (c_X5_step_ok l D cA (AD 4) (TT 4) ns s0 n0 k0 t0 cnt (LL s0) hnsR hn3 hs hcR hcn h18 hk0 hLG.wf h21 hL8 hn0 h19 (by omega) (by omega)) mwX5_step rfl ⟨by decide, by decide⟩ (pmc (fun f h h0 hq => by have e1 := hq _ _ (wCl_op cA AD TT JJ OP LL hs hn3 u); simp only [h] at e1 ⊢; omega)) (fun r2 u2 hp2 => ?_)⟩
  obtain ⟨rfl, eu2⟩ := hp2
  have x1 := hC3.2.2.2.2.1.2
  have x2 := hC1.2.2.2.2.1.2
  refine ⟨by rw [x1, x2], cnt, cw, ko, ?_⟩
  subst eu eu2
  exact hRel.op (by omega) hs (Nat.le_refl _) (by omega) _ _ hC3 (hK1.tr (SK.ss _ (by omega) hL8 n0)) (fun r i z => (mr_ss hs3 r i z).trans (hm1 r i z))
theorem P_room {T ax ar index : Nat} (F : Fx p m c cc nL s args own meth ret D cA A) (hR : RelW cA T ax ar ws) (a1 a2 a3 : Int32) (hl : Cond.methodLink own index yX4_room ∈ T0) (d : decode cc pc = .ok (.invokevirtual index, 3)) (hcat : (rest.map fun v => v.category).sum ≤ 8) (hc : cells + 20 ≤ 600000 ∧ slots + 200 ≤ 7302250) (kk : ∀ x ws2, RQ p l e s m args below meth c Q nL D A cc own cA (T + 200) ax ar yX5_room [.int a1, .int a2, .int a3] x ws2 → Wx p l e room_1 s m args below meth c (cells + 20) (slots + 200) Q nL D A (pc + 3) lv (.int x :: rest) ws2) : Wx p l e room_1 s m args below meth c cells slots Q nL D A pc lv (.int a3 :: .int a2 :: .int a1 :: .ref ax :: rest) ws := by
  obtain ⟨AD, TT, JJ, OP, LL, ns, cnt, cw, ko, hRel, hp, rfl, rfl⟩ := hR
  obtain ⟨⟨hcn, hcC, hcR, hLG⟩, ⟨hk2, hF2, hF4⟩, ⟨hcw, hcwR, hcw16, hth⟩, ⟨hko, hkoc, hFo⟩, ⟨hn3, hns, hnsR⟩, hS⟩ := id hRel
  by_cases c0 : nI 0 ≤ a1 ∧ a1 ≤ nI ns - nI 1
  case neg =>
    exact PRO F hRel hp (wL cA (AD 1) (TT 1) ++ wF cA (AD 2) (TT 2) ++ wF cA (AD 3) (TT 3) ++ wSv cA AD TT JJ OP LL ns ++ wR cA (AD 4) (TT 4)) (pmc (fun f h h0 hq => by simp only [wAll, wXX, h]; omega)) (c_X4_room_b0 l D cA (AD 0) (AD 1 100) (AD 2 100) (AD 3 100) (TT 0) (OP 0) a1 a2 a3 (by rw [hns]; exact c0)) mwX4_room rfl ⟨by decide, by decide⟩ rfl (c_X5_room_b0 l D cA (AD 4) (TT 4) a1 a2 a3 (by rw [hnsR]; exact c0)) mwX5_room rfl ⟨by decide, by decide⟩ (fun r hr => ⟨(-2), hr, fun r2 h2 => h2⟩) hl d hcat hc kk
  obtain ⟨s0, hs, rfl⟩ := sol_nat hn3 c0
  obtain ⟨ha, ⟨hL1, hL8⟩, ⟨k0, t0, hk0, ht0, hCF⟩, hMK⟩ := hS s0 hs
  have hs3 : s0 < 3 := by omega
  by_cases c1 : nI 0 ≤ a3 ∧ a3 ≤ nI 15
  case neg =>
    exact PRO F hRel hp (wL cA (AD 1) (TT 1) ++ wF cA (AD 2) (TT 2) ++ wF cA (AD 3) (TT 3) ++ wSv cA AD TT JJ OP LL ns ++ wR cA (AD 4) (TT 4)) (pmc (fun f h h0 hq => by simp only [wAll, wXX, h]; omega)) (c_X4_room_b1 l D cA (AD 0) (AD 1 100) (AD 2 100) (AD 3 100) (TT 0) (OP 0) ns s0 (AD (10 + s0)) a2 a3 hns hn3 hs ha c1) mwX4_room rfl ⟨by decide, by decide⟩ rfl (c_X5_room_b1 l D cA (AD 4) (TT 4) ns s0 a2 a3 hnsR hn3 hs c1) mwX5_room rfl ⟨by decide, by decide⟩ (fun r hr => ⟨(-2), hr, fun r2 h2 => h2⟩) hl d hcat hc kk
  obtain ⟨j, hj, rfl⟩ := wn (n := 15) (by omega) c1
  have hj16 : j < 16 := by omega
  obtain ⟨⟨f1, f2, f3, f4⟩, -⟩ := hCF
  have t6 : TT (20 + s0) 2 j = TT 4 6 (16 * s0 + j) := (f2.1 j hj16).1
  obtain ⟨p1, p2, -, -⟩ := f3 j hj16
  by_cases cj : TT (20 + s0) 2 j = 0
  · exact PRO F hRel hp (wL cA (AD 1) (TT 1) ++ wF cA (AD 2) (TT 2) ++ wF cA (AD 3) (TT 3) ++ wMk cA AD TT JJ OP LL s0 0 ++ wMk cA AD TT JJ OP LL s0 1 ++ wRs cA AD TT JJ OP LL s0 ns ++ wR cA (AD 4) (TT 4)) ((wAll_s cA AD TT JJ OP LL hs).trans (pmc (fun f h h0 hq => by simp only [h]; omega))) (c_X4_room_st l D cA (AD 0) (AD 1 100) (AD 2 100) (AD 3 100) (TT 0) (OP 0) (AD (10 + s0)) (LL s0) (TT (10 + s0)) (JJ (10 + s0)) (OP (10 + s0)) (AD (20 + s0)) (TT (20 + s0)) ns s0 j a2 hns hn3 hs ha hj16 cj) mwX4_room rfl ⟨by decide, by decide⟩ rfl (c_X5_room_st l D cA (AD 4) (TT 4) ns s0 j a2 hnsR hn3 hs hj16 (by rw [← t6]; exact cj)) mwX5_room rfl ⟨by decide, by decide⟩ (fun r hr => ⟨(-3), hr, fun r2 h2 => h2⟩) hl d hcat hc kk
  · have cj2 : ¬ TT 4 6 (16 * s0 + j) = 0 := by rw [← t6]; exact cj
    unfold rmO at p1 p2
    rw [if_neg cj2] at p1 p2
    by_cases cb : a2 = 0
    · exact PRO F hRel hp (wL cA (AD 1) (TT 1) ++ wF cA (AD 2) (TT 2) ++ wF cA (AD 3) (TT 3) ++ wMk cA AD TT JJ OP LL s0 0 ++ wMk cA AD TT JJ OP LL s0 1 ++ wRs cA AD TT JJ OP LL s0 ns ++ wR cA (AD 4) (TT 4)) ((wAll_s cA AD TT JJ OP LL hs).trans (pmc (fun f h h0 hq => by simp only [h]; omega))) (c_X4_room_0 l D cA (AD 0) (AD 1 100) (AD 2 100) (AD 3 100) (TT 0) (OP 0) (AD (10 + s0)) (LL s0) (TT (10 + s0)) (JJ (10 + s0)) (OP (10 + s0)) (AD (20 + s0)) (TT (20 + s0)) ns s0 j a2 hns hn3 hs ha hj16 cj cb) mwX4_room rfl ⟨by decide, by decide⟩ rfl (c_X5_room_0 l D cA (AD 4) (TT 4) ns s0 j a2 hnsR hn3 hs hj16 cj2 cb) mwX5_room rfl ⟨by decide, by decide⟩ (fun r hr => ⟨_, hr, fun r2 h2 => by rw [h2]; exact congrArg (fun z => some (Value.int z)) p1.symm⟩) hl d hcat hc kk
    · exact PRO F hRel hp (wL cA (AD 1) (TT 1) ++ wF cA (AD 2) (TT 2) ++ wF cA (AD 3) (TT 3) ++ wMk cA AD TT JJ OP LL s0 0 ++ wMk cA AD TT JJ OP LL s0 1 ++ wRs cA AD TT JJ OP LL s0 ns ++ wR cA (AD 4) (TT 4)) ((wAll_s cA AD TT JJ OP LL hs).trans (pmc (fun f h h0 hq => by simp only [h]; omega))) (c_X4_room_1 l D cA (AD 0) (AD 1 100) (AD 2 100) (AD 3 100) (TT 0) (OP 0) (AD (10 + s0)) (LL s0) (TT (10 + s0)) (JJ (10 + s0)) (OP (10 + s0)) (AD (20 + s0)) (TT (20 + s0)) ns s0 j a2 hns hn3 hs ha hj16 cj cb) mwX4_room rfl ⟨by decide, by decide⟩ rfl (c_X5_room_1 l D cA (AD 4) (TT 4) ns s0 j a2 hnsR hn3 hs hj16 cj2 cb) mwX5_room rfl ⟨by decide, by decide⟩ (fun r hr => ⟨_, hr, fun r2 h2 => by rw [h2]; exact congrArg (fun z => some (Value.int z)) p2.symm⟩) hl d hcat hc kk
theorem P_told {T ax ar index : Nat} (F : Fx p m c cc nL s args own meth ret D cA A) (hR : RelW cA T ax ar ws) (a1 a2 : Int32) (hl : Cond.methodLink own index yX4_told ∈ T0) (d : decode cc pc = .ok (.invokevirtual index, 3)) (hcat : (rest.map fun v => v.category).sum ≤ 8) (hc : cells + 20 ≤ 600000 ∧ slots + 200 ≤ 7302250) (hTT : T < 400000) (kk : ∀ x ws2, RQ p l e s m args below meth c Q nL D A cc own cA (T + 200) ax ar yX5_told [.int a1, .int a2] x ws2 → Wx p l e room_1 s m args below meth c (cells + 20) (slots + 200) Q nL D A (pc + 3) lv (.int x :: rest) ws2) : Wx p l e room_1 s m args below meth c cells slots Q nL D A pc lv (.int a2 :: .int a1 :: .ref ax :: rest) ws := by
  obtain ⟨AD, TT, JJ, OP, LL, ns, cnt, cw, ko, hRel, hp, rfl, rfl⟩ := hR
  obtain ⟨⟨hcn, hcC, hcR, hLG⟩, ⟨hk2, hF2, hF4⟩, ⟨hcw, hcwR, hcw16, hth⟩, ⟨hko, hkoc, hFo⟩, ⟨hn3, hns, hnsR⟩, hS⟩ := id hRel
  by_cases c0 : nI 0 ≤ a1 ∧ a1 ≤ nI ns - nI 1
  case neg =>
    exact PRO F hRel hp (wL cA (AD 1) (TT 1) ++ wF cA (AD 2) (TT 2) ++ wF cA (AD 3) (TT 3) ++ wSv cA AD TT JJ OP LL ns ++ wR cA (AD 4) (TT 4)) (pmc (fun f h h0 hq => by simp only [wAll, wXX, h]; omega)) (c_X4_told_b0 l D cA (AD 0) (AD 1 100) (AD 2 100) (AD 3 100) (TT 0) (OP 0) a1 a2 (by rw [hns]; exact c0)) mwX4_told rfl ⟨by decide, by decide⟩ rfl (c_X5_told_b0 l D cA (AD 4) (TT 4) a1 a2 (by rw [hnsR]; exact c0)) mwX5_told rfl ⟨by decide, by decide⟩ (fun r hr => ⟨(-2147483648), hr, fun r2 h2 => h2⟩) hl d hcat hc kk
  obtain ⟨s0, hs, rfl⟩ := sol_nat hn3 c0
  obtain ⟨ha, ⟨hL1, hL8⟩, ⟨k0, t0, hk0, ht0, hCF⟩, hMK⟩ := hS s0 hs
  have hs3 : s0 < 3 := by omega
  have hCF2 := hCF
  obtain ⟨⟨f1, f2, f3, f11⟩, -, hCL, ⟨h8, h19⟩, ⟨h9, h10⟩, ⟨h00, h18⟩, h21⟩ := hCF2
  have hml := Nat.mod_lt t0 (show 0 < LL s0 by omega)
  obtain ⟨l1, l2⟩ := hCL _ hml
  have lq : JJ (10 + s0) 3 (t0 % LL s0) = pkL (TT 4 22 (8 * s0 + t0 % LL s0)) (TT 4 23 (8 * s0 + t0 % LL s0)) := l1
  by_cases c1 : nI 0 ≤ a2 ∧ a2 ≤ nI 6
  case neg =>
    exact PRO F hRel hp (wL cA (AD 1) (TT 1) ++ wF cA (AD 2) (TT 2) ++ wF cA (AD 3) (TT 3) ++ wSv cA AD TT JJ OP LL ns ++ wR cA (AD 4) (TT 4)) (pmc (fun f h h0 hq => by simp only [wAll, wXX, h]; omega)) (c_X4_told_b1 l D cA (AD 0) (AD 1 100) (AD 2 100) (AD 3 100) (TT 0) (OP 0) ns s0 (AD (10 + s0)) a2 hns hn3 hs ha (nin_int (a := 0) (n := 6) (by decide) (by decide) c1)) mwX4_told rfl ⟨by decide, by decide⟩ rfl (c_X5_told_b1 l D cA (AD 4) (TT 4) ns s0 a2 hnsR hn3 hs c1) mwX5_told rfl ⟨by decide, by decide⟩ (fun r hr => ⟨(-2147483648), hr, fun r2 h2 => h2⟩) hl d hcat hc kk
  obtain ⟨w, hw, rfl⟩ := wn (n := 6) (by omega) c1
  have hcs : w = 0 ∨ w = 1 ∨ w = 2 ∨ w = 3 ∨ w = 4 ∨ w = 5 ∨ w = 6 := by omega
  rcases hcs with rfl | rfl | rfl | rfl | rfl | rfl | rfl
  · exact PRO F hRel hp (wL cA (AD 1) (TT 1) ++ wF cA (AD 2) (TT 2) ++ wF cA (AD 3) (TT 3) ++ wMk cA AD TT JJ OP LL s0 0 ++ wMk cA AD TT JJ OP LL s0 1 ++ wRs cA AD TT JJ OP LL s0 ns ++ wR cA (AD 4) (TT 4)) ((wAll_s cA AD TT JJ OP LL hs).trans (pmc (fun f h h0 hq => by simp only [h]; omega))) (c_X4_told_0 l D cA (AD 0) (AD 1 100) (AD 2 100) (AD 3 100) (TT 0) (OP 0) (AD (10 + s0)) (LL s0) (TT (10 + s0)) (JJ (10 + s0)) (OP (10 + s0)) (AD (20 + s0)) (TT (20 + s0)) ns s0 hns hn3 hs ha) mwX4_told rfl ⟨by decide, by decide⟩ rfl (c_X5_told_0 l D cA (AD 4) (TT 4) ns s0 t0 (LL s0) hnsR hn3 hs h19 (by omega) h21 (by omega) hL8) mwX5_told rfl ⟨by decide, by decide⟩ (fun r hr => ⟨_, hr, fun r2 h2 => by rw [h2]; exact congrArg (fun z => some (Value.int z)) (h19.trans h8.symm)⟩) hl d hcat hc kk
  · exact PRO F hRel hp (wL cA (AD 1) (TT 1) ++ wF cA (AD 2) (TT 2) ++ wF cA (AD 3) (TT 3) ++ wMk cA AD TT JJ OP LL s0 0 ++ wMk cA AD TT JJ OP LL s0 1 ++ wRs cA AD TT JJ OP LL s0 ns ++ wR cA (AD 4) (TT 4)) ((wAll_s cA AD TT JJ OP LL hs).trans (pmc (fun f h h0 hq => by simp only [h]; omega))) (c_X4_told_1 l D cA (AD 0) (AD 1 100) (AD 2 100) (AD 3 100) (TT 0) (OP 0) (AD (10 + s0)) (LL s0) (TT (10 + s0)) (JJ (10 + s0)) (OP (10 + s0)) (AD (20 + s0)) (TT (20 + s0)) ns s0 hns hn3 hs ha) mwX4_told rfl ⟨by decide, by decide⟩ rfl (c_X5_told_1 l D cA (AD 4) (TT 4) ns s0 t0 (LL s0) hnsR hn3 hs h19 (by omega) h21 (by omega) hL8) mwX5_told rfl ⟨by decide, by decide⟩ (fun r hr => ⟨_, hr, fun r2 h2 => by rw [h2]; exact congrArg (fun z => some (Value.int z)) (h18.trans h00.symm)⟩) hl d hcat hc kk
  · exact PRO F hRel hp (wL cA (AD 1) (TT 1) ++ wF cA (AD 2) (TT 2) ++ wF cA (AD 3) (TT 3) ++ wMk cA AD TT JJ OP LL s0 0 ++ wMk cA AD TT JJ OP LL s0 1 ++ wRs cA AD TT JJ OP LL s0 ns ++ wR cA (AD 4) (TT 4)) ((wAll_s cA AD TT JJ OP LL hs).trans (pmc (fun f h h0 hq => by simp only [h]; omega))) (c_X4_told_2 l D cA (AD 0) (AD 1 100) (AD 2 100) (AD 3 100) (TT 0) (OP 0) (AD (10 + s0)) (LL s0) (TT (10 + s0)) (JJ (10 + s0)) (OP (10 + s0)) (AD (20 + s0)) (TT (20 + s0)) ns s0 hns hn3 hs ha) mwX4_told rfl ⟨by decide, by decide⟩ rfl (c_X5_told_2 l D cA (AD 4) (TT 4) ns s0 t0 (LL s0) hnsR hn3 hs h19 (by omega) h21 (by omega) hL8) mwX5_told rfl ⟨by decide, by decide⟩ (fun r hr => ⟨_, hr, fun r2 h2 => by rw [h2]; exact congrArg (fun z => some (Value.int z)) (h10.symm)⟩) hl d hcat hc kk
  · exact PRO F hRel hp (wL cA (AD 1) (TT 1) ++ wF cA (AD 2) (TT 2) ++ wF cA (AD 3) (TT 3) ++ wMk cA AD TT JJ OP LL s0 0 ++ wMk cA AD TT JJ OP LL s0 1 ++ wRs cA AD TT JJ OP LL s0 ns ++ wR cA (AD 4) (TT 4)) ((wAll_s cA AD TT JJ OP LL hs).trans (pmc (fun f h h0 hq => by simp only [h]; omega))) (c_X4_told_3 l D cA (AD 0) (AD 1 100) (AD 2 100) (AD 3 100) (TT 0) (OP 0) (AD (10 + s0)) (LL s0) (TT (10 + s0)) (JJ (10 + s0)) (OP (10 + s0)) (AD (20 + s0)) (TT (20 + s0)) ns s0 hns hn3 hs ha) mwX4_told rfl ⟨by decide, by decide⟩ rfl (c_X5_told_3 l D cA (AD 4) (TT 4) ns s0 t0 (LL s0) hnsR hn3 hs h19 (by omega) h21 (by omega) hL8) mwX5_told rfl ⟨by decide, by decide⟩ (fun r hr => ⟨_, hr, fun r2 h2 => by rw [h2]; exact congrArg (fun z => some (Value.int z)) (f11.symm)⟩) hl d hcat hc kk
  · exact PRO F hRel hp (wL cA (AD 1) (TT 1) ++ wF cA (AD 2) (TT 2) ++ wF cA (AD 3) (TT 3) ++ wMk cA AD TT JJ OP LL s0 0 ++ wMk cA AD TT JJ OP LL s0 1 ++ wRs cA AD TT JJ OP LL s0 ns ++ wR cA (AD 4) (TT 4)) ((wAll_s cA AD TT JJ OP LL hs).trans (pmc (fun f h h0 hq => by simp only [h]; omega))) (c_X4_told_4 l D cA (AD 0) (AD 1 100) (AD 2 100) (AD 3 100) (TT 0) (OP 0) (AD (10 + s0)) (LL s0) (TT (10 + s0)) (JJ (10 + s0)) (OP (10 + s0)) (AD (20 + s0)) (TT (20 + s0)) ns s0 hns hn3 hs ha) mwX4_told rfl ⟨by decide, by decide⟩ rfl (c_X5_told_4 l D cA (AD 4) (TT 4) ns s0 t0 (LL s0) hnsR hn3 hs h19 (by omega) h21 (by omega) hL8) mwX5_told rfl ⟨by decide, by decide⟩ (fun r hr => ⟨_, hr, fun r2 h2 => by rw [h2]; exact congrArg (fun z => some (Value.int z)) (h9.symm)⟩) hl d hcat hc kk
  · exact PRO F hRel hp (wL cA (AD 1) (TT 1) ++ wF cA (AD 2) (TT 2) ++ wF cA (AD 3) (TT 3) ++ wMk cA AD TT JJ OP LL s0 0 ++ wMk cA AD TT JJ OP LL s0 1 ++ wRs cA AD TT JJ OP LL s0 ns ++ wR cA (AD 4) (TT 4)) ((wAll_s cA AD TT JJ OP LL hs).trans (pmc (fun f h h0 hq => by simp only [h]; omega))) (c_X4_told_5 l D cA (AD 0) (AD 1 100) (AD 2 100) (AD 3 100) (TT 0) (OP 0) (AD (10 + s0)) (LL s0) (TT (10 + s0)) (JJ (10 + s0)) (OP (10 + s0)) (AD (20 + s0)) (TT (20 + s0)) ns s0 t0 hns hn3 hs ha h8 (by omega) (by omega) (by omega)) mwX4_told rfl ⟨by decide, by decide⟩ rfl (c_X5_told_5 l D cA (AD 4) (TT 4) ns s0 t0 (LL s0) hnsR hn3 hs h19 (by omega) h21 (by omega) hL8) mwX5_told rfl ⟨by decide, by decide⟩ (fun r hr => ⟨_, hr, fun r2 h2 => by rw [h2]; exact congrArg (fun z => some (Value.int z)) (by rw [if_neg (by decide +kernel), lq, pkL_hi l2])⟩) hl d hcat hc kk
  · exact PRO F hRel hp (wL cA (AD 1) (TT 1) ++ wF cA (AD 2) (TT 2) ++ wF cA (AD 3) (TT 3) ++ wMk cA AD TT JJ OP LL s0 0 ++ wMk cA AD TT JJ OP LL s0 1 ++ wRs cA AD TT JJ OP LL s0 ns ++ wR cA (AD 4) (TT 4)) ((wAll_s cA AD TT JJ OP LL hs).trans (pmc (fun f h h0 hq => by simp only [h]; omega))) (c_X4_told_6 l D cA (AD 0) (AD 1 100) (AD 2 100) (AD 3 100) (TT 0) (OP 0) (AD (10 + s0)) (LL s0) (TT (10 + s0)) (JJ (10 + s0)) (OP (10 + s0)) (AD (20 + s0)) (TT (20 + s0)) ns s0 t0 hns hn3 hs ha h8 (by omega) (by omega) (by omega)) mwX4_told rfl ⟨by decide, by decide⟩ rfl (c_X5_told_6 l D cA (AD 4) (TT 4) ns s0 t0 (LL s0) hnsR hn3 hs h19 (by omega) h21 (by omega) hL8) mwX5_told rfl ⟨by decide, by decide⟩ (fun r hr => ⟨_, hr, fun r2 h2 => by rw [h2]; exact congrArg (fun z => some (Value.int z)) (by rw [if_pos (by decide +kernel), lq, pkL_lo l2])⟩) hl d hcat hc kk
theorem P_change {T ax ar index : Nat} (F : Fx p m c cc nL s args own meth ret D cA A) (hR : RelW cA T ax ar ws) (a1 : Int32) (hl : Cond.methodLink own index yX4_change ∈ T0) (d : decode cc pc = .ok (.invokevirtual index, 3)) (hcat : (rest.map fun v => v.category).sum ≤ 8) (hc : cells + 20 ≤ 600000 ∧ slots + 200 ≤ 7302250) (kk : ∀ x ws2, RQ p l e s m args below meth c Q nL D A cc own cA (T + 200) ax ar yX5_change [.int a1] x ws2 → Wx p l e room_1 s m args below meth c (cells + 20) (slots + 200) Q nL D A (pc + 3) lv (.int x :: rest) ws2) : Wx p l e room_1 s m args below meth c cells slots Q nL D A pc lv (.int a1 :: .ref ax :: rest) ws := by
  obtain ⟨AD, TT, JJ, OP, LL, ns, cnt, cw, ko, hRel, hp, rfl, rfl⟩ := hR
  obtain ⟨⟨hcn, hcC, hcR, hLG⟩, ⟨hk2, hF2, hF4⟩, ⟨hcw, hcwR, hcw16, hth⟩, ⟨hko, hkoc, hFo⟩, ⟨hn3, hns, hnsR⟩, hS⟩ := id hRel
  refine PRO F hRel hp (wF cA (AD 2) (TT 2) ++ wF cA (AD 3) (TT 3) ++ wSv cA AD TT JJ OP LL ns ++ wR cA (AD 4) (TT 4)) (pmc (fun f h h0 hq => by simp only [wAll, wXX, h]; omega)) (c_X4_change l D cA (AD 0) (AD 2 100) (AD 3 100) (TT 0) (OP 0) (AD 1) (TT 1) cnt a1 hcC hcn) mwX4_change rfl ⟨by decide, by decide⟩ rfl (c_X5_change l D cA (AD 4) (TT 4) cnt a1 hcR hcn) mwX5_change rfl ⟨by decide, by decide⟩ (fun r hr => ?_) hl d hcat hc kk
  by_cases c1 : nI 1 ≤ a1 ∧ a1 ≤ nI cnt
  · obtain ⟨i, hi, rfl⟩ := wn1 (by omega) c1
    exact ⟨_, hr.2 i hi rfl, fun r2 h2 => by rw [h2.2 i hi rfl, hLG.1 i hi 0 (by decide)]⟩
  · exact ⟨_, hr.1 c1, fun r2 h2 => h2.1 c1⟩
theorem thc_fr {A B : Nat → Nat → Int32} (h : FR A B) : ∀ n, n ≤ 16 → thc A n = thc B n := by
  intro n
  induction n with
  | zero => intro _; rfl
  | succ n ih => intro hn; unfold thc; rw [ih (by omega), (h.1 n (by omega)).1]
theorem fcV_fr {A B : Nat → Nat → Int32} (h : FR A B) (cw g d : Nat) : fcV A cw g d = fcV B cw g d := by
  unfold fcV
  by_cases e1 : g = 1
  · rw [if_pos e1, if_pos e1]
    by_cases ed : d < 16
    · rw [(h.1 d ed).1]
    · rw [if_neg (c := d < 16 ∧ ¬ A 2 d = 0) (fun z => ed z.1), if_neg (c := d < 16 ∧ ¬ B 2 d = 0) (fun z => ed z.1)]
  · rw [if_neg e1, if_neg e1]
    by_cases e6 : g = 6
    · rw [if_pos e6, if_pos e6]
      by_cases ed : d < 6
      · rw [if_pos ed, if_pos ed, h.2 d ed]
      · rw [if_neg ed, if_neg ed]
    · rw [if_neg e6, if_neg e6]
      by_cases ed : d < 16
      · obtain ⟨h2, h6, -, h3⟩ := h.1 d ed
        rw [← h2]
        by_cases et : ¬ A 2 d = 0
        · rw [if_pos ⟨ed, et⟩, if_pos ⟨ed, et⟩]
          obtain ⟨x, y, z⟩ := h3 et
          unfold trV
          rw [x, y, z, h6]
        · rw [if_neg (fun z => et z.2), if_neg (fun z => et z.2)]
      · rw [if_neg (fun z => ed z.1), if_neg (fun z => ed z.1)]
theorem P_fact {T ax ar index : Nat} (F : Fx p m c cc nL s args own meth ret D cA A) (hR : RelW cA T ax ar ws) (a1 : Int32) (hl : Cond.methodLink own index yX4_fact ∈ T0) (d : decode cc pc = .ok (.invokevirtual index, 3)) (hcat : (rest.map fun v => v.category).sum ≤ 8) (hc : cells + 20 ≤ 600000 ∧ slots + 200 ≤ 7302250) (kk : ∀ x ws2, RQ p l e s m args below meth c Q nL D A cc own cA (T + 200) ax ar yX5_fact [.int a1] x ws2 → Wx p l e room_1 s m args below meth c (cells + 20) (slots + 200) Q nL D A (pc + 3) lv (.int x :: rest) ws2) : Wx p l e room_1 s m args below meth c cells slots Q nL D A pc lv (.int a1 :: .ref ax :: rest) ws := by
  obtain ⟨AD, TT, JJ, OP, LL, ns, cnt, cw, ko, hRel, hp, rfl, rfl⟩ := hR
  obtain ⟨⟨hcn, hcC, hcR, hLG⟩, ⟨hk2, hF2, hF4⟩, ⟨hcw, hcwR, hcw16, hth⟩, ⟨hko, hkoc, hFo⟩, ⟨hn3, hns, hnsR⟩, hS⟩ := id hRel
  by_cases c1 : nI 100 ≤ a1
  · have h0 : ¬ a1 < 0 := fun z => by
      have := Int32.lt_of_le_of_lt c1 z
      exact absurd this (by decide +kernel)
    obtain ⟨w, hw, rfl⟩ := nI_of h0
    have hw1 : 100 ≤ w := (nI_leI (by decide) hw).mp c1
    exact PRO F hRel hp (wL cA (AD 1) (TT 1) ++ wF cA (AD 3) (TT 3) ++ wSv cA AD TT JJ OP LL ns ++ wR cA (AD 4) (TT 4)) (pmc (fun f h h0 hq => by simp only [wAll, wXX, h]; omega)) (c_X4_fact_w l D cA (AD 0) (AD 1 100) (AD 3 100) (TT 0) (OP 0) (AD 2) (TT 2) w cw hw1 hw hcw hcw16) mwX4_fact rfl ⟨by decide, by decide⟩ rfl (c_X5_fact_w l D cA (AD 4) (TT 4) w cw hw1 hw hcwR hcw16 (fun j hj z => hth j hj (by rw [show TT 2 2 j = TT 4 6 (64 + j) from (hF4.1 j hj).1]; exact z))) mwX5_fact rfl ⟨by decide, by decide⟩ (fun r hr => ⟨_, hr, fun r2 h2 => by rw [h2, fcV_fr hF4]⟩) hl d hcat hc kk
  · by_cases c2 : nI 0 ≤ a1 ∧ a1 ≤ nI 3
    · obtain ⟨w, hw, rfl⟩ := wn (n := 3) (by omega) c2
      have hcs : w = 0 ∨ w = 1 ∨ w = 2 ∨ w = 3 := by omega
      rcases hcs with rfl | rfl | rfl | rfl
      · exact PRO F hRel hp (wF cA (AD 3) (TT 3) ++ wSv cA AD TT JJ OP LL ns ++ wR cA (AD 4) (TT 4)) (pmc (fun f h h0 hq => by simp only [wAll, wXX, h]; omega)) (c_X4_fact_0 l D cA (AD 0) (AD 3 100) (TT 0) (OP 0) (AD 1) (TT 1) (AD 2) (TT 2)) mwX4_fact rfl ⟨by decide, by decide⟩ rfl (c_X5_fact_0 l D cA (AD 4) (TT 4)) mwX5_fact rfl ⟨by decide, by decide⟩ (fun r hr => ⟨_, hr, fun r2 h2 => by rw [h2]; exact congrArg (fun z => some (Value.int z)) (by rw [thc_fr hF4 16 (Nat.le_refl _)])⟩) hl d hcat hc kk
      · exact PRO F hRel hp (wF cA (AD 3) (TT 3) ++ wSv cA AD TT JJ OP LL ns ++ wR cA (AD 4) (TT 4)) (pmc (fun f h h0 hq => by simp only [wAll, wXX, h]; omega)) (c_X4_fact_1 l D cA (AD 0) (AD 3 100) (TT 0) (OP 0) (AD 1) (TT 1) (AD 2) (TT 2)) mwX4_fact rfl ⟨by decide, by decide⟩ rfl (c_X5_fact_1 l D cA (AD 4) (TT 4)) mwX5_fact rfl ⟨by decide, by decide⟩ (fun r hr => ⟨_, hr, fun r2 h2 => by rw [h2]; exact congrArg (fun z => some (Value.int z)) (hcwR.trans hcw.symm)⟩) hl d hcat hc kk
      · exact PRO F hRel hp (wF cA (AD 3) (TT 3) ++ wSv cA AD TT JJ OP LL ns ++ wR cA (AD 4) (TT 4)) (pmc (fun f h h0 hq => by simp only [wAll, wXX, h]; omega)) (c_X4_fact_2 l D cA (AD 0) (AD 3 100) (TT 0) (OP 0) (AD 1) (TT 1) (AD 2) (TT 2)) mwX4_fact rfl ⟨by decide, by decide⟩ rfl (c_X5_fact_2 l D cA (AD 4) (TT 4)) mwX5_fact rfl ⟨by decide, by decide⟩ (fun r hr => ⟨_, hr, fun r2 h2 => by rw [h2]; exact congrArg (fun z => some (Value.int z)) (hcR.trans hcC.symm)⟩) hl d hcat hc kk
      · exact PRO F hRel hp (wF cA (AD 3) (TT 3) ++ wSv cA AD TT JJ OP LL ns ++ wR cA (AD 4) (TT 4)) (pmc (fun f h h0 hq => by simp only [wAll, wXX, h]; omega)) (c_X4_fact_3 l D cA (AD 0) (AD 3 100) (TT 0) (OP 0) (AD 1) (TT 1) (AD 2) (TT 2)) mwX4_fact rfl ⟨by decide, by decide⟩ rfl (c_X5_fact_3 l D cA (AD 4) (TT 4)) mwX5_fact rfl ⟨by decide, by decide⟩ (fun r hr => ⟨_, hr, fun r2 h2 => by rw [h2]; exact congrArg (fun z => some (Value.int z)) (hnsR.trans hns.symm)⟩) hl d hcat hc kk
    · exact PRO F hRel hp (wF cA (AD 3) (TT 3) ++ wSv cA AD TT JJ OP LL ns ++ wR cA (AD 4) (TT 4)) (pmc (fun f h h0 hq => by simp only [wAll, wXX, h]; omega)) (c_X4_fact_b l D cA (AD 0) (AD 3 100) (TT 0) (OP 0) (AD 1) (TT 1) (AD 2) (TT 2) a1 c1 c2) mwX4_fact rfl ⟨by decide, by decide⟩ rfl (c_X5_fact_b l D cA (AD 4) (TT 4) a1 c1 c2) mwX5_fact rfl ⟨by decide, by decide⟩ (fun r hr => ⟨(-2), hr, fun r2 h2 => h2⟩) hl d hcat hc kk
end P2
