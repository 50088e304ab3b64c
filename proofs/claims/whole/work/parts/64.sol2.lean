/-! pairs of calls: scores, likeness, marks, going back, solve -/
theorem Rel.oth {AD : Nat → Nat → Nat} {TT : Nat → Nat → Nat → Int32} {JJ : Nat → Nat → Nat → Int64} {OP : Nat → Nat → Option Nat} {LL : Nat → Nat} {ns T cnt cw ko : Nat} (h : Rel AD TT JJ OP LL ns T cnt cw ko) {B : Nat → Nat → Int32} {k : Nat} (hB : B 0 0 = nI k) (hk : k ≤ cnt) (hF : FR B (fN (TT 1) k)) : Rel AD (va_up TT 3 B) JJ OP LL ns T cnt cw k := by
  obtain ⟨h1, h2, h3, -, h5, h6⟩ := h
  have u : ∀ i, i ≠ 3 → va_up TT 3 B i = TT i := fun i hi => if_neg hi
  unfold Rel
  rw [u 0 (by decide), u 1 (by decide), u 2 (by decide), u 4 (by decide), show va_up TT 3 B 3 = B from if_pos rfl]
  exact ⟨h1, h2, h3, ⟨hB, hk, hF⟩, h5, fun s hs => (h6 s hs).st rfl (fun _ _ => rfl) (u _ (by omega)) (u _ (by omega)) (fun _ _ => u _ (by omega)) rfl (fun _ _ => rfl) rfl rfl rfl⟩
theorem wCl_oth (cA : Nat → ClassId) (AD : Nat → Nat → Nat) (TT : Nat → Nat → Nat → Int32) (JJ : Nat → Nat → Nat → Int64) (OP : Nat → Nat → Option Nat) (LL : Nat → Nat) (ns : Nat) (B : Nat → Nat → Int32) : wCl cA AD (va_up TT 3 B) JJ OP LL ns = wXX cA AD TT OP ++ wL cA (AD 1) (TT 1) ++ wF cA (AD 2) (TT 2) ++ wF cA (AD 3) B ++ wSv cA AD TT JJ OP LL ns := by
  have u : ∀ i, i ≠ 3 → va_up TT 3 B i = TT i := fun i hi => if_neg hi
  unfold wCl wXX
  rw [wSv_cg (AD := AD) (TT := TT) (JJ := JJ) (OP := OP) (LL := LL) (fun v _ => by unfold wOne wMk; rw [u (10 + v) (by omega), u (20 + v) (by omega), u (30 + 2 * v + 0) (by omega), u (30 + 2 * v + 1) (by omega)]), u 0 (by decide), u 1 (by decide), u 2 (by decide), show va_up TT 3 B 3 = B from if_pos rfl]
theorem wMk_some {cA : Nat → ClassId} {AD : Nat → Nat → Nat} {TT : Nat → Nat → Nat → Int32} {JJ : Nat → Nat → Nat → Int64} {OP : Nat → Nat → Option Nat} {LL : Nat → Nat} {s k a : Nat} (h : OP (10 + s) k = some a) : wMk cA AD TT JJ OP LL s k = wM cA (AD (30 + 2 * s + k)) (LL s) (TT (30 + 2 * s + k)) (JJ (30 + 2 * s + k)) := by
  unfold wMk; rw [h]
theorem wMk_none {cA : Nat → ClassId} {AD : Nat → Nat → Nat} {TT : Nat → Nat → Nat → Int32} {JJ : Nat → Nat → Nat → Int64} {OP : Nat → Nat → Option Nat} {LL : Nat → Nat} {s k : Nat} (h : OP (10 + s) k = none) : wMk cA AD TT JJ OP LL s k = [] := by
  unfold wMk; rw [h]
theorem mk_two (cA : Nat → ClassId) (AD : Nat → Nat → Nat) (TT : Nat → Nat → Nat → Int32) (JJ : Nat → Nat → Nat → Int64) (OP : Nat → Nat → Option Nat) (LL : Nat → Nat) (s : Nat) {k : Nat} (hk : k < 2) (f : va_W → Nat) : f (wMk cA AD TT JJ OP LL s 0) + f (wMk cA AD TT JJ OP LL s 1) = f (wMk cA AD TT JJ OP LL s k) + f (wMk cA AD TT JJ OP LL s (1 - k)) := by
  have hc : k = 0 ∨ k = 1 := by omega
  rcases hc with rfl | rfl
  · rfl
  · exact Nat.add_comm _ _
theorem wCl_mk (cA : Nat → ClassId) (AD : Nat → Nat → Nat) (TT : Nat → Nat → Nat → Int32) (JJ : Nat → Nat → Nat → Int64) (OP : Nat → Nat → Option Nat) (LL : Nat → Nat) {s k ns : Nat} (hs : s < ns) (hk : k < 2) (AD2 : Nat → Nat → Nat) (OP2 : Nat → Nat → Option Nat) (MM : Nat → Nat → Int32) (JM : Nat → Nat → Int64) (hA : ∀ i, i ≠ 30 + 2 * s + k → AD2 i = AD i) (hO0 : OP2 0 = OP 0) (hO : ∀ i, i ≠ 10 + s → OP2 i = OP i) (hOk : ∀ q, q ≠ k → OP2 (10 + s) q = OP (10 + s) q) (hOs : OP2 (10 + s) k = some (AD2 (30 + 2 * s + k) 100)) (hn3 : ns ≤ 3) : (wCl cA AD2 (va_up TT (30 + 2 * s + k) MM) (va_up JJ (30 + 2 * s + k) JM) OP2 LL ns).Perm (wX cA (AD 0) (AD 1 100) (AD 2 100) (AD 3 100) (TT 0) (OP 0) ++ wL cA (AD 1) (TT 1) ++ wF cA (AD 2) (TT 2) ++ wF cA (AD 3) (TT 3) ++ wS cA (AD (10 + s)) (AD (20 + s) 100) (LL s) (TT (10 + s)) (JJ (10 + s)) (OP2 (10 + s)) ++ wF cA (AD (20 + s)) (TT (20 + s)) ++ wM cA (AD2 (30 + 2 * s + k)) (LL s) MM JM ++ wMk cA AD TT JJ OP LL s (1 - k) ++ wRs cA AD TT JJ OP LL s ns) := by
  obtain ⟨TU, eU⟩ : ∃ z, z = va_up TT (30 + 2 * s + k) MM := ⟨_, rfl⟩
  obtain ⟨JU, eJ⟩ : ∃ z, z = va_up JJ (30 + 2 * s + k) JM := ⟨_, rfl⟩
  have uo : ∀ i, i ≠ 30 + 2 * s + k → TU i = TT i := fun i y => by rw [eU]; exact if_neg y
  have u1 : TU (30 + 2 * s + k) = MM := by rw [eU]; exact if_pos rfl
  have jo : ∀ i, i ≠ 30 + 2 * s + k → JU i = JJ i := fun i y => by rw [eJ]; exact if_neg y
  have j1 : JU (30 + 2 * s + k) = JM := by rw [eJ]; exact if_pos rfl
  rw [← eU, ← eJ]
  have h1 := sv_split cA AD2 TU JU OP2 LL hs
  rw [wRs_cg (AD := AD) (TT := TT) (JJ := JJ) (OP := OP) (LL := LL) (fun v _ hne => by unfold wOne wMk; rw [uo (10 + v) (by omega), uo (20 + v) (by omega), uo (30 + 2 * v + 0) (by omega), uo (30 + 2 * v + 1) (by omega), jo (10 + v) (by omega), jo (30 + 2 * v + 0) (by omega), jo (30 + 2 * v + 1) (by omega), hA (10 + v) (by omega), hA (20 + v) (by omega), hA (30 + 2 * v + 0) (by omega), hA (30 + 2 * v + 1) (by omega), hO (10 + v) (by omega)])] at h1
  have h2 : wMk cA AD2 TU JU OP2 LL s k = wM cA (AD2 (30 + 2 * s + k)) (LL s) MM JM := by rw [wMk_some hOs, u1, j1]
  have h3 : wMk cA AD2 TU JU OP2 LL s (1 - k) = wMk cA AD TT JJ OP LL s (1 - k) := by
    unfold wMk; rw [hOk (1 - k) (by omega), uo (30 + 2 * s + (1 - k)) (by omega), jo (30 + 2 * s + (1 - k)) (by omega), hA (30 + 2 * s + (1 - k)) (by omega)]
  unfold wCl wXX
  rw [uo 0 (by omega), uo 1 (by omega), uo 2 (by omega), uo 3 (by omega), hA 0 (by omega), hA 1 (by omega), hA 2 (by omega), hA 3 (by omega), hO0]
  exact pmc (fun f h h0 hq => by
    have e1 := hq _ _ h1
    have e2 := mk_two cA AD2 TU JU OP2 LL s hk f
    simp only [wOne, h] at e1
    rw [h2, h3] at e2
    rw [uo (10 + s) (by omega), uo (20 + s) (by omega), jo (10 + s) (by omega), hA (10 + s) (by omega), hA (20 + s) (by omega)] at e1
    simp only [h]; omega)
theorem scv (h s : Int32) (hs : 0 ≤ s.toInt) (p : Int32) : (if p = 0 then (pkL h s).toInt32 else (pkL h s >>> ((nI 32).toInt64 &&& 63)).toInt32) = if p = 0 then s else h := by
  rw [pkL_lo hs, pkL_hi hs]
section P3
variable {p : Program} {l : Launch} {e : Env} {s : State} {m : MethodId} {args : Array Value} {below : List Frame} {meth : Method} {c : Code} {cells slots : Nat} {Q : State → Prop} {cc : ByteArray} {nL : Nat} {own : String} {ret : Option FieldType} {D : va_G} {cA : Nat → ClassId} {A : Nat → Prop} {pc : Nat} {lv : List (Nat × Value)} {rest : List Value} {ws : va_W}
theorem RQ_of2 {y : MethodName} {bytes : ByteArray} {maxL n k T ax : Nat} {As : List Value} {post : Option Value → (Nat → Nat → Int32) → Prop} {x : Int32} {arF : Nat → Nat} (F : Fx p m c cc nL s args own meth ret D cA A) (AD : Nat → Nat → Nat) (TT : Nat → Nat → Nat → Int32) (JJ : Nat → Nat → Nat → Int64) (OP : Nat → Nat → Option Nat) (LL : Nat → Nat) (ns : Nat) (N : Nat → Nat → Int32) (h0 : AD 0 100 = ax) (h4 : AD 4 = arF) (hM : Cg l D cA y bytes maxL (some .int) n 0 0 (.ref (arF 100) :: As) (wR cA arF N) post (fun u => wR cA arF u)) (hw : Mw y RX5 bytes maxL (some .int) k) (hn0 : As.length = k) (hRm : n + 1 ≤ 9 ∧ 8 + (maxL + 11) + 36 * n ≤ 332) (hp : ws.Perm (wCl cA AD TT JJ OP LL ns ++ wR cA arF N)) (hx : ∀ r u, post r u → r = some (.int x) ∧ ∃ cnt cw ko, Rel AD (va_up TT 4 u) JJ OP LL ns T cnt cw ko) : RQ p l e s m args below meth c Q nL D A cc own cA T ax (arF 100) y As x ws := by
  subst h0 h4
  exact RQ_of F AD TT JJ OP LL ns N hM hw hn0 hRm hp hx
theorem P_score {T ax ar index : Nat} (F : Fx p m c cc nL s args own meth ret D cA A) (hR : RelW cA T ax ar ws) (a1 a2 a3 : Int32) (hl : Cond.methodLink own index yX4_score ∈ T0) (d : decode cc pc = .ok (.invokevirtual index, 3)) (hcat : (rest.map fun v => v.category).sum ≤ 8) (hc : cells + 20 ≤ 600000 ∧ slots + 200 ≤ 7302250) (kk : ∀ x ws2, RQ p l e s m args below meth c Q nL D A cc own cA (T + 200) ax ar yX5_score [.int a1, .int a2, .int a3] x ws2 → Wx p l e room_1 s m args below meth c (cells + 20) (slots + 200) Q nL D A (pc + 3) lv (.int x :: rest) ws2) : Wx p l e room_1 s m args below meth c cells slots Q nL D A pc lv (.int a3 :: .int a2 :: .int a1 :: .ref ax :: rest) ws := by
  obtain ⟨AD, TT, JJ, OP, LL, ns, cnt, cw, ko, hRel, hp, rfl, rfl⟩ := hR
  obtain ⟨⟨hcn, hcC, hcR, hLG⟩, ⟨hk2, hF2, hF4⟩, ⟨hcw, hcwR, hcw16, hth⟩, ⟨hko, hkoc, hFo⟩, ⟨hn3, hns, hnsR⟩, hS⟩ := id hRel
  by_cases c0 : nI 0 ≤ a1 ∧ a1 ≤ nI ns - nI 1
  case neg =>
    exact PRO F hRel hp (wL cA (AD 1) (TT 1) ++ wF cA (AD 2) (TT 2) ++ wF cA (AD 3) (TT 3) ++ wSv cA AD TT JJ OP LL ns ++ wR cA (AD 4) (TT 4)) (pmc (fun f h h0 hq => by simp only [wAll, wXX, h]; omega)) (c_X4_score_b0 l D cA (AD 0) (AD 1 100) (AD 2 100) (AD 3 100) (TT 0) (OP 0) a1 a2 a3 (by rw [hns]; exact c0)) mwX4_score rfl ⟨by decide, by decide⟩ rfl (c_X5_score_b0 l D cA (AD 4) (TT 4) a1 a2 a3 (by rw [hnsR]; exact c0)) mwX5_score rfl ⟨by decide, by decide⟩ (fun r hr => ⟨(-2), hr, fun r2 h2 => h2⟩) hl d hcat hc kk
  obtain ⟨s0, hs, rfl⟩ := sol_nat hn3 c0
  obtain ⟨ha, ⟨hL1, hL8⟩, ⟨k0, t0, hk0, ht0, hCF⟩, hMK⟩ := hS s0 hs
  have hs3 : s0 < 3 := by omega
  obtain ⟨hCQ, hCJ, -⟩ := hCF
  obtain ⟨e1, p1, e3, p3⟩ := hCQ.sc (hLG.fb hk0)
  by_cases cb : a2 = 0
  · refine PC_of F (wL cA (AD 1) (TT 1) ++ wF cA (AD 2) (TT 2) ++ wF cA (AD 3) (TT 3) ++ wF cA (AD (20 + s0)) (TT (20 + s0)) ++ wMk cA AD TT JJ OP LL s0 0 ++ wMk cA AD TT JJ OP LL s0 1 ++ wRs cA AD TT JJ OP LL s0 ns ++ wR cA (AD 4) (TT 4)) (c_X4_score_0 l D cA (AD 0) (AD 1 100) (AD 2 100) (AD 3 100) (TT 0) (OP 0) (AD (10 + s0)) (LL s0) (TT (10 + s0)) (JJ (10 + s0)) (OP (10 + s0)) (AD (20 + s0) 100) ns s0 a2 a3 hns hn3 hs ha cb) mwX4_score rfl ⟨by decide, by decide⟩ ⟨by decide, by decide⟩ rfl (hp.trans ((wAll_s cA AD TT JJ OP LL hs).trans (pmc (fun f h h0 hq => by simp only [h]; omega)))) hl d hcat hc (fun r u hpo => ?_) kk
    have hv : JJ (10 + s0) 6 0 = pkL (hdR (TT 4) s0 s0 s0 16) (sfR (TT 4) s0 s0 s0 16) := hCJ.1.trans e1
    refine ⟨_, hpo, RQ_of F AD TT JJ OP LL ns (TT 4) (c_X5_score_0 l D cA (AD 4) (TT 4) ns s0 a2 a3 hnsR hn3 hs cb) mwX5_score rfl ⟨by decide, by decide⟩ (List.perm_append_comm.trans (((wAll_s cA AD TT JJ OP LL hs).trans (pmc (fun f h h0 hq => by simp only [h]; omega)))).symm) (fun r2 u2 hp2 => ?_)⟩
    obtain ⟨rfl, rfl⟩ := hp2
    refine ⟨by rw [hv, scv _ _ p1], cnt, cw, ko, (hRel.jd _ (fun k i x15 x16 _ => by rw [jdg_o _ _ _ _ _ x15 x16])).T (by omega)⟩
  · refine PC_of F (wL cA (AD 1) (TT 1) ++ wF cA (AD 2) (TT 2) ++ wF cA (AD 3) (TT 3) ++ wF cA (AD (20 + s0)) (TT (20 + s0)) ++ wMk cA AD TT JJ OP LL s0 0 ++ wMk cA AD TT JJ OP LL s0 1 ++ wRs cA AD TT JJ OP LL s0 ns ++ wR cA (AD 4) (TT 4)) (c_X4_score_1 l D cA (AD 0) (AD 1 100) (AD 2 100) (AD 3 100) (TT 0) (OP 0) (AD (10 + s0)) (LL s0) (TT (10 + s0)) (JJ (10 + s0)) (OP (10 + s0)) (AD (20 + s0) 100) ns s0 a2 a3 hns hn3 hs ha cb) mwX4_score rfl ⟨by decide, by decide⟩ ⟨by decide, by decide⟩ rfl (hp.trans ((wAll_s cA AD TT JJ OP LL hs).trans (pmc (fun f h h0 hq => by simp only [h]; omega)))) hl d hcat hc (fun r u hpo => ?_) kk
    have hv : JJ (10 + s0) 7 0 = pkL (hdR (TT 4) (3 + s0) s0 s0 16) (sfR (TT 4) (3 + s0) s0 s0 16) := hCJ.2.trans e3
    refine ⟨_, hpo, RQ_of F AD TT JJ OP LL ns (TT 4) (c_X5_score_1 l D cA (AD 4) (TT 4) ns s0 a2 a3 hnsR hn3 hs cb) mwX5_score rfl ⟨by decide, by decide⟩ (List.perm_append_comm.trans (((wAll_s cA AD TT JJ OP LL hs).trans (pmc (fun f h h0 hq => by simp only [h]; omega)))).symm) (fun r2 u2 hp2 => ?_)⟩
    obtain ⟨rfl, rfl⟩ := hp2
    refine ⟨by rw [hv, scv _ _ p3], cnt, cw, ko, (hRel.jd _ (fun k i x15 x16 _ => by rw [jdg_o _ _ _ _ _ x15 x16])).T (by omega)⟩
theorem P_scoreBy {T ax ar index : Nat} (F : Fx p m c cc nL s args own meth ret D cA A) (hR : RelW cA T ax ar ws) (a1 a2 a3 a4 : Int32) (hl : Cond.methodLink own index yX4_scoreBy ∈ T0) (d : decode cc pc = .ok (.invokevirtual index, 3)) (hcat : (rest.map fun v => v.category).sum ≤ 8) (hc : cells + 20 ≤ 600000 ∧ slots + 200 ≤ 7302250) (kk : ∀ x ws2, RQ p l e s m args below meth c Q nL D A cc own cA (T + 200) ax ar yX5_scoreBy [.int a1, .int a2, .int a3, .int a4] x ws2 → Wx p l e room_1 s m args below meth c (cells + 20) (slots + 200) Q nL D A (pc + 3) lv (.int x :: rest) ws2) : Wx p l e room_1 s m args below meth c cells slots Q nL D A pc lv (.int a4 :: .int a3 :: .int a2 :: .int a1 :: .ref ax :: rest) ws := by
  obtain ⟨AD, TT, JJ, OP, LL, ns, cnt, cw, ko, hRel, hp, rfl, rfl⟩ := hR
  obtain ⟨⟨hcn, hcC, hcR, hLG⟩, ⟨hk2, hF2, hF4⟩, ⟨hcw, hcwR, hcw16, hth⟩, ⟨hko, hkoc, hFo⟩, ⟨hn3, hns, hnsR⟩, hS⟩ := id hRel
  by_cases c0 : nI 0 ≤ a1 ∧ a1 ≤ nI ns - nI 1
  case neg =>
    exact PRO F hRel hp (wL cA (AD 1) (TT 1) ++ wF cA (AD 2) (TT 2) ++ wF cA (AD 3) (TT 3) ++ wSv cA AD TT JJ OP LL ns ++ wR cA (AD 4) (TT 4)) (pmc (fun f h h0 hq => by simp only [wAll, wXX, h]; omega)) (c_X4_scoreBy_b0 l D cA (AD 0) (AD 1 100) (AD 2 100) (AD 3 100) (TT 0) (OP 0) a1 a2 a3 a4 (by rw [hns]; exact c0)) mwX4_scoreBy rfl ⟨by decide, by decide⟩ rfl (c_X5_scoreBy_b0 l D cA (AD 4) (TT 4) a1 a2 a3 a4 (by rw [hnsR]; exact c0)) mwX5_scoreBy rfl ⟨by decide, by decide⟩ (fun r hr => ⟨(-2), hr, fun r2 h2 => h2⟩) hl d hcat hc kk
  obtain ⟨s0, hs, rfl⟩ := sol_nat hn3 c0
  obtain ⟨ha, ⟨hL1, hL8⟩, ⟨k0, t0, hk0, ht0, hCF⟩, hMK⟩ := hS s0 hs
  have hs3 : s0 < 3 := by omega
  by_cases c1 : nI 0 ≤ a4 ∧ a4 ≤ nI cnt
  case neg =>
    exact PRO F hRel hp (wF cA (AD 2) (TT 2) ++ wF cA (AD 3) (TT 3) ++ wSv cA AD TT JJ OP LL ns ++ wR cA (AD 4) (TT 4)) (pmc (fun f h h0 hq => by simp only [wAll, wXX, h]; omega)) (c_X4_scoreBy_b1 l D cA (AD 0) (AD 2 100) (AD 3 100) (TT 0) (OP 0) ns s0 (AD (10 + s0)) (AD 1) (TT 1) a2 a3 a4 hns hn3 hs ha (by rw [hcC]; exact c1)) mwX4_scoreBy rfl ⟨by decide, by decide⟩ rfl (c_X5_scoreBy_b1 l D cA (AD 4) (TT 4) ns s0 a2 a3 a4 hnsR hn3 hs (by rw [hcR]; exact c1)) mwX5_scoreBy rfl ⟨by decide, by decide⟩ (fun r hr => ⟨(-2), hr, fun r2 h2 => h2⟩) hl d hcat hc kk
  obtain ⟨n0, hn0, rfl⟩ := wn (n := cnt) (by omega) c1
  obtain ⟨⟨f1, f2, f3, f4⟩, -⟩ := hCF
  have hA : FR (becF (TT 1) ko n0 (TT 3)) (fN (TT 1) n0) := becF_FR (fun i hi => hLG.2.1 i (by omega)) hFo
  have hK : FR (slc 3 (mkR (TT 4) 3 n0)) (fN (TT 1) n0) := by
    have h1 := mkR_FR (N := TT 4) 3 n0 (fun i hi => hLG.wf i (by omega))
    rw [fN_cg (G := logR (TT 4)) (G2 := TT 1) (fun i hi q hq => (hLG.1 i (by omega) q hq).symm)] at h1
    exact h1
  have hAK := hA.tr hK.sy
  have rk : ∀ (pl j : Nat), j < 16 → rmO (mkR (TT 4) 3 n0) pl s0 j = rmO (TT 4) pl s0 j := fun pl j hj => by
    unfold rmO
    rw [mkR_keep (fun i hi => hLG.wf i (by omega)) 6 (16 * s0 + j) (by unfold wrF; omega), mkR_o _ _ _ 14 (Or.inr (by decide))]
  by_cases cb : a2 = 0
  · obtain ⟨ev, pv⟩ := scr_eq (A := becF (TT 1) ko n0 (TT 3)) (N := mkR (TT 4) 3 n0) (f := 3) (pl := s0) (own := s0) (p := TT (10 + s0) 1) hAK (hLG.fb hn0 |>.of hA) (fun j hj => (by rw [rk _ j hj]; exact (f3 j hj).1)) (fun j hj => (f3 j hj).2.2.1)
    refine PC_of F (wF cA (AD 2) (TT 2) ++ wF cA (AD (20 + s0)) (TT (20 + s0)) ++ wMk cA AD TT JJ OP LL s0 0 ++ wMk cA AD TT JJ OP LL s0 1 ++ wRs cA AD TT JJ OP LL s0 ns ++ wR cA (AD 4) (TT 4)) (c_X4_scoreBy_0 l D cA (AD 0) (AD 2 100) (TT 0) (OP 0) (AD 1) (TT 1) (AD 3) (TT 3) (AD (10 + s0)) (LL s0) (TT (10 + s0)) (JJ (10 + s0)) (OP (10 + s0)) (AD (20 + s0) 100) ns s0 n0 ko cnt a2 a3 hns hn3 hs ha hcC hcn hko hkoc hLG.2.1 hn0 cb) mwX4_scoreBy rfl ⟨by decide, by decide⟩ ⟨by decide, by decide⟩ rfl (hp.trans ((wAll_s cA AD TT JJ OP LL hs).trans (pmc (fun f h h0 hq => by simp only [h]; omega)))) hl d hcat hc (fun r u hpo => ?_) kk
    obtain ⟨rfl, rfl⟩ := hpo
    refine ⟨_, rfl, RQ_of F AD (va_up TT 3 (scT (becF (TT 1) ko n0 (TT 3)) (TT (10 + s0) 1) 16)) JJ OP LL ns (TT 4) (c_X5_scoreBy_0 l D cA (AD 4) (TT 4) ns s0 n0 cnt a2 a3 hnsR hn3 hs hcR hcn hLG.wf hn0 cb) mwX5_scoreBy rfl ⟨by decide, by decide⟩ (pmc (fun f h h0 hq => by have e1 := hq _ _ (sv_split cA AD TT JJ OP LL hs); simp only [wCl_oth, wXX, wOne, h] at e1 ⊢; omega)) (fun r2 u2 hp2 => ?_)⟩
    obtain ⟨rfl, rfl⟩ := hp2
    have hO := hRel.oth (B := scT (becF (TT 1) ko n0 (TT 3)) (TT (10 + s0) 1) 16) (k := n0) (by rw [scT_00]; exact becF_00 _ _ _ _ hko) hn0 ((scT_EF _ _ 16).fr.tr hA)
    refine ⟨by rw [ev, scv _ _ pv], cnt, cw, n0, (hO.jd _ (fun k i x15 x16 x3 => by rw [jdg_o _ _ _ _ _ x15 x16, mkR_keep (fun i hi => hLG.wf i (by omega)) k i x3]; rfl)).T (by omega)⟩
  · obtain ⟨ev, pv⟩ := scr_eq (A := becF (TT 1) ko n0 (TT 3)) (N := mkR (TT 4) 3 n0) (f := 3) (pl := (3 + s0)) (own := s0) (p := TT (10 + s0) 2) hAK (hLG.fb hn0 |>.of hA) (fun j hj => (by rw [rk _ j hj]; exact (f3 j hj).2.1)) (fun j hj => (f3 j hj).2.2.2)
    refine PC_of F (wF cA (AD 2) (TT 2) ++ wF cA (AD (20 + s0)) (TT (20 + s0)) ++ wMk cA AD TT JJ OP LL s0 0 ++ wMk cA AD TT JJ OP LL s0 1 ++ wRs cA AD TT JJ OP LL s0 ns ++ wR cA (AD 4) (TT 4)) (c_X4_scoreBy_1 l D cA (AD 0) (AD 2 100) (TT 0) (OP 0) (AD 1) (TT 1) (AD 3) (TT 3) (AD (10 + s0)) (LL s0) (TT (10 + s0)) (JJ (10 + s0)) (OP (10 + s0)) (AD (20 + s0) 100) ns s0 n0 ko cnt a2 a3 hns hn3 hs ha hcC hcn hko hkoc hLG.2.1 hn0 cb) mwX4_scoreBy rfl ⟨by decide, by decide⟩ ⟨by decide, by decide⟩ rfl (hp.trans ((wAll_s cA AD TT JJ OP LL hs).trans (pmc (fun f h h0 hq => by simp only [h]; omega)))) hl d hcat hc (fun r u hpo => ?_) kk
    obtain ⟨rfl, rfl⟩ := hpo
    refine ⟨_, rfl, RQ_of F AD (va_up TT 3 (scT (becF (TT 1) ko n0 (TT 3)) (TT (10 + s0) 2) 16)) JJ OP LL ns (TT 4) (c_X5_scoreBy_1 l D cA (AD 4) (TT 4) ns s0 n0 cnt a2 a3 hnsR hn3 hs hcR hcn hLG.wf hn0 cb) mwX5_scoreBy rfl ⟨by decide, by decide⟩ (pmc (fun f h h0 hq => by have e1 := hq _ _ (sv_split cA AD TT JJ OP LL hs); simp only [wCl_oth, wXX, wOne, h] at e1 ⊢; omega)) (fun r2 u2 hp2 => ?_)⟩
    obtain ⟨rfl, rfl⟩ := hp2
    have hO := hRel.oth (B := scT (becF (TT 1) ko n0 (TT 3)) (TT (10 + s0) 2) 16) (k := n0) (by rw [scT_00]; exact becF_00 _ _ _ _ hko) hn0 ((scT_EF _ _ 16).fr.tr hA)
    refine ⟨by rw [ev, scv _ _ pv], cnt, cw, n0, (hO.jd _ (fun k i x15 x16 x3 => by rw [jdg_o _ _ _ _ _ x15 x16, mkR_keep (fun i hi => hLG.wf i (by omega)) k i x3]; rfl)).T (by omega)⟩
theorem lk_iff {N MS MT A B F : Nat → Nat → Int32} {a b : Nat} (hA : FR A F) (hB : FR B F) (hA2 : FR A (slc a N)) (hB2 : FR B (slc b N)) (hp : CP a MS N) (hq : CP b MT N) : lkS MS MT 16 ↔ lkR N a b 16 := by
  have key : ∀ j, j < 16 → ((MS 1 j = MT 1 j ∧ MS 2 j = MT 2 j) ↔ (N 6 (16 * a + j) = 0 ∨ N 14 (16 * a + j) = N 14 (16 * b + j) ∧ N 14 (16 * (3 + a) + j) = N 14 (16 * (3 + b) + j))) := by
    intro j hj
    obtain ⟨p1, p2, -, -⟩ := hp j hj
    obtain ⟨q1, q2, -, -⟩ := hq j hj
    have e : N 6 (16 * b + j) = N 6 (16 * a + j) := by
      have x1 : N 6 (16 * a + j) = F 2 j := ((hA2.sy.tr hA).1 j hj).1
      have x2 : N 6 (16 * b + j) = F 2 j := ((hB2.sy.tr hB).1 j hj).1
      rw [x1, x2]
    unfold rmO at p1 p2 q1 q2
    rw [e] at q1 q2
    rw [p1, p2, q1, q2]
    by_cases z : N 6 (16 * a + j) = 0
    · rw [if_pos z, if_pos z, if_pos z, if_pos z]
      exact ⟨fun _ => Or.inl z, fun _ => ⟨rfl, rfl⟩⟩
    · rw [if_neg z, if_neg z, if_neg z, if_neg z]
      exact ⟨fun y => Or.inr y, fun y => y.resolve_left z⟩
  exact ⟨fun h j hj => (key j hj).mp (h j hj), fun h j hj => (key j hj).mpr (h j hj)⟩
theorem one_zero {x y : Int32} {P P2 : Prop} (hx : x = 1 ∨ x = 0) (hy : y = 1 ∨ y = 0) (h1 : x = 1 ↔ P) (h2 : y = 1 ↔ P2) (h : P ↔ P2) : y = x := by
  by_cases c : P
  · rw [h1.mpr c, h2.mpr (h.mp c)]
  · rw [hx.resolve_left (fun z => c (h1.mp z)), hy.resolve_left (fun z => c (h.mpr (h2.mp z)))]
theorem P_same {T ax ar index : Nat} (F : Fx p m c cc nL s args own meth ret D cA A) (hR : RelW cA T ax ar ws) (a1 a2 : Int32) (hl : Cond.methodLink own index yX4_same ∈ T0) (d : decode cc pc = .ok (.invokevirtual index, 3)) (hcat : (rest.map fun v => v.category).sum ≤ 8) (hc : cells + 20 ≤ 600000 ∧ slots + 200 ≤ 7302250) (kk : ∀ x ws2, RQ p l e s m args below meth c Q nL D A cc own cA (T + 200) ax ar yX5_same [.int a1, .int a2] x ws2 → Wx p l e room_1 s m args below meth c (cells + 20) (slots + 200) Q nL D A (pc + 3) lv (.int x :: rest) ws2) : Wx p l e room_1 s m args below meth c cells slots Q nL D A pc lv (.int a2 :: .int a1 :: .ref ax :: rest) ws := by
  obtain ⟨AD, TT, JJ, OP, LL, ns, cnt, cw, ko, hRel, hp, rfl, rfl⟩ := hR
  obtain ⟨⟨hcn, hcC, hcR, hLG⟩, ⟨hk2, hF2, hF4⟩, ⟨hcw, hcwR, hcw16, hth⟩, ⟨hko, hkoc, hFo⟩, ⟨hn3, hns, hnsR⟩, hS⟩ := id hRel
  by_cases c0 : nI 0 ≤ a1 ∧ a1 ≤ nI ns - nI 1
  case neg =>
    by_cases c1 : nI 0 ≤ a2 ∧ a2 ≤ nI ns - nI 1
    · obtain ⟨v0, hv, rfl⟩ := sol_nat hn3 c1
      exact PRO F hRel hp (wL cA (AD 1) (TT 1) ++ wF cA (AD 2) (TT 2) ++ wF cA (AD 3) (TT 3) ++ wSv cA AD TT JJ OP LL ns ++ wR cA (AD 4) (TT 4)) (pmc (fun f h h0 hq => by simp only [wAll, wXX, h]; omega)) (c_X4_same_b0 l D cA (AD 0) (AD 1 100) (AD 2 100) (AD 3 100) (TT 0) (OP 0) ns v0 (AD (10 + v0)) a1 hns hn3 hv (hS v0 hv).1 (by rw [hns]; exact c0)) mwX4_same rfl ⟨by decide, by decide⟩ rfl (c_X5_same_b0 l D cA (AD 4) (TT 4) a1 (nI v0) (by rw [hnsR]; exact c0)) mwX5_same rfl ⟨by decide, by decide⟩ (fun r hr => ⟨(-2), hr, fun r2 h2 => h2⟩) hl d hcat hc kk
    · exact PRO F hRel hp (wL cA (AD 1) (TT 1) ++ wF cA (AD 2) (TT 2) ++ wF cA (AD 3) (TT 3) ++ wSv cA AD TT JJ OP LL ns ++ wR cA (AD 4) (TT 4)) (pmc (fun f h h0 hq => by simp only [wAll, wXX, h]; omega)) (c_X4_same_bb l D cA (AD 0) (AD 1 100) (AD 2 100) (AD 3 100) (TT 0) (OP 0) a1 a2 (by rw [hns]; exact c0) (by rw [hns]; exact c1)) mwX4_same rfl ⟨by decide, by decide⟩ rfl (c_X5_same_b0 l D cA (AD 4) (TT 4) a1 a2 (by rw [hnsR]; exact c0)) mwX5_same rfl ⟨by decide, by decide⟩ (fun r hr => ⟨(-2), hr, fun r2 h2 => h2⟩) hl d hcat hc kk
  obtain ⟨s0, hs, rfl⟩ := sol_nat hn3 c0
  obtain ⟨ha, -, ⟨k0, t0, hk0, ht0, hCF⟩, -⟩ := hS s0 hs
  by_cases c1 : nI 0 ≤ a2 ∧ a2 ≤ nI ns - nI 1
  case neg =>
    exact PRO F hRel hp (wL cA (AD 1) (TT 1) ++ wF cA (AD 2) (TT 2) ++ wF cA (AD 3) (TT 3) ++ wSv cA AD TT JJ OP LL ns ++ wR cA (AD 4) (TT 4)) (pmc (fun f h h0 hq => by simp only [wAll, wXX, h]; omega)) (c_X4_same_b1 l D cA (AD 0) (AD 1 100) (AD 2 100) (AD 3 100) (TT 0) (OP 0) ns s0 (AD (10 + s0)) a2 hns hn3 hs ha (by rw [hns]; exact c1)) mwX4_same rfl ⟨by decide, by decide⟩ rfl (c_X5_same_b1 l D cA (AD 4) (TT 4) ns s0 a2 hnsR hn3 hs (by rw [hnsR]; exact c1)) mwX5_same rfl ⟨by decide, by decide⟩ (fun r hr => ⟨(-2), hr, fun r2 h2 => h2⟩) hl d hcat hc kk
  obtain ⟨v0, hv, rfl⟩ := sol_nat hn3 c1
  obtain ⟨ha2, -, ⟨k1, t1, hk1, ht1, hCF1⟩, -⟩ := hS v0 hv
  obtain ⟨⟨f1, f2, f3, f4⟩, -, -, -, -, ⟨h00, h18⟩, -⟩ := hCF
  obtain ⟨⟨g1, g2, g3, g4⟩, -, -, -, -, ⟨g00, g18⟩, -⟩ := hCF1
  by_cases es : v0 = s0
  · subst es
    refine PRO F hRel hp (wL cA (AD 1) (TT 1) ++ wF cA (AD 2) (TT 2) ++ wF cA (AD 3) (TT 3) ++ wMk cA AD TT JJ OP LL v0 0 ++ wMk cA AD TT JJ OP LL v0 1 ++ wRs cA AD TT JJ OP LL v0 ns ++ wR cA (AD 4) (TT 4)) ((wAll_s cA AD TT JJ OP LL hs).trans (pmc (fun f h h0 hq => by simp only [h]; omega))) (c_X4_same1 l D cA (AD 0) (AD 1 100) (AD 2 100) (AD 3 100) (TT 0) (OP 0) (AD (10 + v0)) (LL v0) (TT (10 + v0)) (JJ (10 + v0)) (OP (10 + v0)) (AD (20 + v0)) (TT (20 + v0)) ns v0 hns hn3 hs ha) mwX4_same rfl ⟨by decide, by decide⟩ rfl (c_X5_same_ok l D cA (AD 4) (TT 4) ns v0 v0 hnsR hn3 hs hs) mwX5_same rfl ⟨by decide, by decide⟩ (fun r hr => ?_) hl d hcat hc kk
    obtain ⟨x, rfl, hx, hi⟩ := hr
    refine ⟨x, rfl, fun r2 h2 => ?_⟩
    obtain ⟨y, rfl, hy, hi2⟩ := h2
    rw [one_zero hx hy hi hi2 ⟨fun _ => ⟨rfl, fun j _ => Or.inr ⟨rfl, rfl⟩⟩, fun _ => ⟨rfl, fun j _ => ⟨rfl, rfl⟩⟩⟩]
  · obtain ⟨w2, hw2⟩ := sv_split2 cA AD TT JJ OP LL hv es
    refine PRO F hRel hp (wL cA (AD 1) (TT 1) ++ wF cA (AD 2) (TT 2) ++ wF cA (AD 3) (TT 3) ++ wMk cA AD TT JJ OP LL s0 0 ++ wMk cA AD TT JJ OP LL s0 1 ++ wMk cA AD TT JJ OP LL v0 0 ++ wMk cA AD TT JJ OP LL v0 1 ++ w2 ++ wR cA (AD 4) (TT 4)) ((wAll_s cA AD TT JJ OP LL hs).trans (pmc (fun f h h0 hq => by have e2 := hq _ _ hw2; simp only [wOne, h] at e2 ⊢; omega))) (c_X4_same2 l D cA (AD 0) (AD 1 100) (AD 2 100) (AD 3 100) (TT 0) (OP 0) (AD (10 + s0)) (LL s0) (TT (10 + s0)) (JJ (10 + s0)) (OP (10 + s0)) (AD (20 + s0)) (TT (20 + s0)) (AD (10 + v0)) (LL v0) (TT (10 + v0)) (JJ (10 + v0)) (OP (10 + v0)) (AD (20 + v0)) (TT (20 + v0)) ns s0 v0 hns hn3 hs ha hv ha2) mwX4_same rfl ⟨by decide, by decide⟩ rfl (c_X5_same_ok l D cA (AD 4) (TT 4) ns s0 v0 hnsR hn3 hs hv) mwX5_same rfl ⟨by decide, by decide⟩ (fun r hr => ?_) hl d hcat hc kk
    obtain ⟨x, rfl, hx, hi⟩ := hr
    refine ⟨x, rfl, fun r2 h2 => ?_⟩
    obtain ⟨y, rfl, hy, hi2⟩ := h2
    rw [one_zero hx hy hi hi2 ?_]
    have e1 : TT (20 + s0) 0 0 = TT 4 18 s0 := h00.trans h18.symm
    have e2 : TT (20 + v0) 0 0 = TT 4 18 v0 := g00.trans g18.symm
    rw [e1, e2]
    refine and_congr_right (fun z => ?_)
    have ek : k1 = k0 := by
      have := h18.symm.trans (z.trans g18)
      exact ((nI_eq (by omega) (by omega)).mp this).symm
    subst ek
    exact lk_iff f1 g1 f2 g2 f3 g3
theorem P_mark {T ax ar index : Nat} (F : Fx p m c cc nL s args own meth ret D cA A) (hR : RelW cA T ax ar ws) (a1 a2 : Int32) (hl : Cond.methodLink own index yX4_mark ∈ T0) (d : decode cc pc = .ok (.invokevirtual index, 3)) (hcat : (rest.map fun v => v.category).sum ≤ 8) (hc : cells + 20 ≤ 600000 ∧ slots + 200 ≤ 7302250) (kk : ∀ x ws2, RQ p l e s m args below meth c Q nL D A cc own cA (T + 200) ax ar yX5_mark [.int a1, .int a2] x ws2 → Wx p l e room_1 s m args below meth c (cells + 20) (slots + 200) Q nL D A (pc + 3) lv (.int x :: rest) ws2) : Wx p l e room_1 s m args below meth c cells slots Q nL D A pc lv (.int a2 :: .int a1 :: .ref ax :: rest) ws := by
  obtain ⟨AD, TT, JJ, OP, LL, ns, cnt, cw, ko, hRel, hp, rfl, rfl⟩ := hR
  obtain ⟨⟨hcn, hcC, hcR, hLG⟩, ⟨hk2, hF2, hF4⟩, ⟨hcw, hcwR, hcw16, hth⟩, ⟨hko, hkoc, hFo⟩, ⟨hn3, hns, hnsR⟩, hS⟩ := id hRel
  by_cases c0 : nI 0 ≤ a1 ∧ a1 ≤ nI ns - nI 1
  case neg =>
    exact PRO F hRel hp (wL cA (AD 1) (TT 1) ++ wF cA (AD 2) (TT 2) ++ wF cA (AD 3) (TT 3) ++ wSv cA AD TT JJ OP LL ns ++ wR cA (AD 4) (TT 4)) (pmc (fun f h h0 hq => by simp only [wAll, wXX, h]; omega)) (c_X4_mark_b0 l D cA (AD 0) (AD 1 100) (AD 2 100) (AD 3 100) (TT 0) (OP 0) a1 a2 (by rw [hns]; exact c0)) mwX4_mark rfl ⟨by decide, by decide⟩ rfl (c_X5_mark_b0 l D cA (AD 4) (TT 4) a1 a2 (by rw [hnsR]; exact c0)) mwX5_mark rfl ⟨by decide, by decide⟩ (fun r hr => ⟨(-2), hr, fun r2 h2 => h2⟩) hl d hcat hc kk
  obtain ⟨s0, hs, rfl⟩ := sol_nat hn3 c0
  obtain ⟨ha, ⟨hL1, hL8⟩, ⟨k0, t0, hk0, ht0, hCF⟩, hMK⟩ := hS s0 hs
  have hs3 : s0 < 3 := by omega
  by_cases c1 : nI 0 ≤ a2 ∧ a2 ≤ nI 1
  case neg =>
    exact PRO F hRel hp (wL cA (AD 1) (TT 1) ++ wF cA (AD 2) (TT 2) ++ wF cA (AD 3) (TT 3) ++ wSv cA AD TT JJ OP LL ns ++ wR cA (AD 4) (TT 4)) (pmc (fun f h h0 hq => by simp only [wAll, wXX, h]; omega)) (c_X4_mark_b1 l D cA (AD 0) (AD 1 100) (AD 2 100) (AD 3 100) (TT 0) (OP 0) ns s0 (AD (10 + s0)) a2 hns hn3 hs ha c1) mwX4_mark rfl ⟨by decide, by decide⟩ rfl (c_X5_mark_b1 l D cA (AD 4) (TT 4) ns s0 a2 hnsR hn3 hs c1) mwX5_mark rfl ⟨by decide, by decide⟩ (fun r hr => ⟨(-2), hr, fun r2 h2 => h2⟩) hl d hcat hc kk
  obtain ⟨k, hk1, rfl⟩ := wn (n := 1) (by omega) c1
  have hk2' : k < 2 := by omega
  have hCF2 := hCF
  obtain ⟨-, -, -, -, -, ⟨h00, h18⟩, h21⟩ := hCF2
  have hans : TT 4 18 s0 = TT (20 + s0) 0 0 := h18.trans h00.symm
  have cpI : ∀ (f g : Nat → Int32) (j : Nat), j < 16 → va_cpy f g 0 0 16 j = f j := fun f g j hj => by rw [pk_cpy_in (by omega) (by omega), show 0 + (j - 0) = j by omega]
  have cpJ : ∀ (f g : Nat → Int64) (i : Nat), i < LL s0 → va_cpy f g 0 0 (LL s0) i = f i := fun f g i hi => by rw [pk_cpy_in (by omega) (by omega), show 0 + (i - 0) = i by omega]
  rcases hMK k hk2' with ⟨hmk, -⟩ | ⟨hmk, -⟩
  · refine PC_of F (wL cA (AD 1) (TT 1) ++ wF cA (AD 2) (TT 2) ++ wF cA (AD 3) (TT 3) ++ wMk cA AD TT JJ OP LL s0 (1 - k) ++ wRs cA AD TT JJ OP LL s0 ns ++ wR cA (AD 4) (TT 4)) (c_X4_mark_0 l D cA (AD 0) (AD 1 100) (AD 2 100) (AD 3 100) (TT 0) (OP 0) (AD (10 + s0)) (LL s0) (TT (10 + s0)) (JJ (10 + s0)) (OP (10 + s0)) (AD (20 + s0)) (TT (20 + s0)) ns s0 k hns hn3 hs ha hk2' hmk hL8) mwX4_mark rfl ⟨by decide, by decide⟩ ⟨by decide, by decide⟩ rfl (hp.trans ((wAll_s cA AD TT JJ OP LL hs).trans (pmc (fun f h h0 hq => by
      have e2 := mk_two cA AD TT JJ OP LL s0 hk2' f
      rw [wMk_none (k := k) hmk, h0] at e2
      simp only [h]; omega)))) hl d hcat hc (fun r u hpo => ?_) kk
    obtain ⟨rfl, eu1, eu2⟩ := hpo
    obtain ⟨AD2, eA⟩ : ∃ z, z = va_up AD (30 + 2 * s0 + k) u.1 := ⟨_, rfl⟩
    obtain ⟨OP2, eO⟩ : ∃ z, z = va_up OP (10 + s0) (va_up (OP (10 + s0)) k (some (u.1 100))) := ⟨_, rfl⟩
    have hA : ∀ i, i ≠ 30 + 2 * s0 + k → AD2 i = AD i := fun i hi => by rw [eA]; exact if_neg hi
    have hAk : AD2 (30 + 2 * s0 + k) = u.1 := by rw [eA]; exact if_pos rfl
    have hO0 : OP2 0 = OP 0 := by rw [eO]; exact if_neg (by omega)
    have hO : ∀ i, i ≠ 10 + s0 → OP2 i = OP i := fun i hi => by rw [eO]; exact if_neg hi
    have hOe : OP2 (10 + s0) = va_up (OP (10 + s0)) k (some (u.1 100)) := by rw [eO]; exact if_pos rfl
    have hOk : ∀ q, q ≠ k → OP2 (10 + s0) q = OP (10 + s0) q := fun q hq => by rw [hOe]; exact if_neg hq
    have hOs : OP2 (10 + s0) k = some (AD2 (30 + 2 * s0 + k) 100) := by rw [hOe, hAk]; exact if_pos rfl
    refine ⟨_, rfl, RQ_of2 F AD2 (va_up TT (30 + 2 * s0 + k) u.2.1) (va_up JJ (30 + 2 * s0 + k) u.2.2) OP2 LL ns (TT 4) (by rw [hA 0 (by omega)]) (hA 4 (by omega)) (c_X5_mark_ok l D cA (AD 4) (TT 4) ns s0 k hnsR hn3 hs hk2') mwX5_mark rfl ⟨by decide, by decide⟩ (pmc (fun f h h0 hq => by
      have e1 := hq _ _ (wCl_mk cA AD TT JJ OP LL hs hk2' AD2 OP2 u.2.1 u.2.2 hA hO0 hO hOk hOs hn3)
      rw [hAk, hOe] at e1
      simp only [h] at e1 ⊢; omega)) (fun r2 u2 hp2 => ?_)⟩
    obtain ⟨rfl, rfl⟩ := hp2
    refine ⟨by rw [hans], cnt, cw, ko, (hRel.mark hs hk2' AD2 OP2 u.2.1 u.2.2 hA hO0 hO hOk hOs ?_ ?_ ?_ ?_).T (by omega)⟩
    · rw [eu1]; simp [va_up, st2, upd]
    · intro j hj; rw [eu1]; simp only [va_up]; rw [if_neg (by decide), if_pos trivial]; exact cpI _ _ j hj
    · intro j hj; rw [eu1]; simp only [va_up]; rw [if_pos trivial]; exact cpI _ _ j hj
    · intro i hi; rw [eu2]; simp only [va_up]; rw [if_pos trivial]; exact cpJ _ _ i hi
  · refine PC_of F (wL cA (AD 1) (TT 1) ++ wF cA (AD 2) (TT 2) ++ wF cA (AD 3) (TT 3) ++ wMk cA AD TT JJ OP LL s0 (1 - k) ++ wRs cA AD TT JJ OP LL s0 ns ++ wR cA (AD 4) (TT 4)) (c_X4_mark_1 l D cA (AD 0) (AD 1 100) (AD 2 100) (AD 3 100) (TT 0) (OP 0) (AD (10 + s0)) (LL s0) (TT (10 + s0)) (JJ (10 + s0)) (OP (10 + s0)) (AD (20 + s0)) (TT (20 + s0)) (AD (30 + 2 * s0 + k)) (TT (30 + 2 * s0 + k)) (JJ (30 + 2 * s0 + k)) ns s0 k hns hn3 hs ha hk2' hmk (by omega)) mwX4_mark rfl ⟨by decide, by decide⟩ ⟨by decide, by decide⟩ rfl (hp.trans ((wAll_s cA AD TT JJ OP LL hs).trans (pmc (fun f h h0 hq => by
      have e2 := mk_two cA AD TT JJ OP LL s0 hk2' f
      rw [wMk_some (k := k) hmk] at e2
      simp only [h]; omega)))) hl d hcat hc (fun r u hpo => ?_) kk
    obtain ⟨rfl, eu1, eu2⟩ := hpo
    refine ⟨_, rfl, RQ_of F AD (va_up TT (30 + 2 * s0 + k) u.1) (va_up JJ (30 + 2 * s0 + k) u.2) OP LL ns (TT 4) (c_X5_mark_ok l D cA (AD 4) (TT 4) ns s0 k hnsR hn3 hs hk2') mwX5_mark rfl ⟨by decide, by decide⟩ (pmc (fun f h h0 hq => by
      have e1 := hq _ _ (wCl_mk cA AD TT JJ OP LL hs hk2' AD OP u.1 u.2 (fun _ _ => rfl) rfl (fun _ _ => rfl) (fun _ _ => rfl) hmk hn3)
      simp only [h] at e1 ⊢; omega)) (fun r2 u2 hp2 => ?_)⟩
    obtain ⟨rfl, rfl⟩ := hp2
    refine ⟨by rw [hans], cnt, cw, ko, (hRel.mark hs hk2' AD OP u.1 u.2 (fun _ _ => rfl) rfl (fun _ _ => rfl) (fun _ _ => rfl) hmk ?_ ?_ ?_ ?_).T (by omega)⟩
    · rw [eu1]; simp [va_up, st2, upd]
    · intro j hj; rw [eu1]; simp only [va_up]; rw [if_neg (by decide), if_pos trivial]; exact cpI _ _ j hj
    · intro j hj; rw [eu1]; simp only [va_up]; rw [if_pos trivial]; exact cpI _ _ j hj
    · intro i hi; rw [eu2]; simp only [va_up]; rw [if_pos trivial]; exact cpJ _ _ i hi
theorem P_back {T ax ar index : Nat} (F : Fx p m c cc nL s args own meth ret D cA A) (hR : RelW cA T ax ar ws) (a1 a2 : Int32) (hl : Cond.methodLink own index yX4_back ∈ T0) (d : decode cc pc = .ok (.invokevirtual index, 3)) (hcat : (rest.map fun v => v.category).sum ≤ 8) (hc : cells + 20 ≤ 600000 ∧ slots + 200 ≤ 7302250) (kk : ∀ x ws2, RQ p l e s m args below meth c Q nL D A cc own cA (T + 200) ax ar yX5_back [.int a1, .int a2] x ws2 → Wx p l e room_1 s m args below meth c (cells + 20) (slots + 200) Q nL D A (pc + 3) lv (.int x :: rest) ws2) : Wx p l e room_1 s m args below meth c cells slots Q nL D A pc lv (.int a2 :: .int a1 :: .ref ax :: rest) ws := by
  obtain ⟨AD, TT, JJ, OP, LL, ns, cnt, cw, ko, hRel, hp, rfl, rfl⟩ := hR
  obtain ⟨⟨hcn, hcC, hcR, hLG⟩, ⟨hk2, hF2, hF4⟩, ⟨hcw, hcwR, hcw16, hth⟩, ⟨hko, hkoc, hFo⟩, ⟨hn3, hns, hnsR⟩, hS⟩ := id hRel
  by_cases c0 : nI 0 ≤ a1 ∧ a1 ≤ nI ns - nI 1
  case neg =>
    exact PRO F hRel hp (wL cA (AD 1) (TT 1) ++ wF cA (AD 2) (TT 2) ++ wF cA (AD 3) (TT 3) ++ wSv cA AD TT JJ OP LL ns ++ wR cA (AD 4) (TT 4)) (pmc (fun f h h0 hq => by simp only [wAll, wXX, h]; omega)) (c_X4_back_b0 l D cA (AD 0) (AD 1 100) (AD 2 100) (AD 3 100) (TT 0) (OP 0) a1 a2 (by rw [hns]; exact c0)) mwX4_back rfl ⟨by decide, by decide⟩ rfl (c_X5_back_b0 l D cA (AD 4) (TT 4) a1 a2 (by rw [hnsR]; exact c0)) mwX5_back rfl ⟨by decide, by decide⟩ (fun r hr => ⟨(-2), hr, fun r2 h2 => h2⟩) hl d hcat hc kk
  obtain ⟨s0, hs, rfl⟩ := sol_nat hn3 c0
  obtain ⟨ha, ⟨hL1, hL8⟩, ⟨k0, t0, hk0, ht0, hCF⟩, hMK⟩ := hS s0 hs
  have hs3 : s0 < 3 := by omega
  by_cases c1 : nI 0 ≤ a2 ∧ a2 ≤ nI 1
  case neg =>
    exact PRO F hRel hp (wL cA (AD 1) (TT 1) ++ wF cA (AD 2) (TT 2) ++ wF cA (AD 3) (TT 3) ++ wSv cA AD TT JJ OP LL ns ++ wR cA (AD 4) (TT 4)) (pmc (fun f h h0 hq => by simp only [wAll, wXX, h]; omega)) (c_X4_back_b1 l D cA (AD 0) (AD 1 100) (AD 2 100) (AD 3 100) (TT 0) (OP 0) ns s0 (AD (10 + s0)) a2 hns hn3 hs ha c1) mwX4_back rfl ⟨by decide, by decide⟩ rfl (c_X5_back_b1 l D cA (AD 4) (TT 4) ns s0 a2 hnsR hn3 hs c1) mwX5_back rfl ⟨by decide, by decide⟩ (fun r hr => ⟨(-2), hr, fun r2 h2 => h2⟩) hl d hcat hc kk
  obtain ⟨k, hk1, rfl⟩ := wn (n := 1) (by omega) c1
  have hk2' : k < 2 := by omega
  have hCF2 := hCF
  obtain ⟨-, -, -, -, -, ⟨h00, h18⟩, h21⟩ := hCF2
  rcases hMK k hk2' with ⟨hmk, h26⟩ | ⟨hmk, h26, km, hkm, hm0, h27, hMP, hMJ⟩
  · exact PRO F hRel hp (wL cA (AD 1) (TT 1) ++ wF cA (AD 2) (TT 2) ++ wF cA (AD 3) (TT 3) ++ wF cA (AD (20 + s0)) (TT (20 + s0)) ++ wMk cA AD TT JJ OP LL s0 0 ++ wMk cA AD TT JJ OP LL s0 1 ++ wRs cA AD TT JJ OP LL s0 ns ++ wR cA (AD 4) (TT 4)) ((wAll_s cA AD TT JJ OP LL hs).trans (pmc (fun f h h0 hq => by simp only [h]; omega))) (c_X4_back_0 l D cA (AD 0) (AD 1 100) (AD 2 100) (AD 3 100) (TT 0) (OP 0) (AD (10 + s0)) (LL s0) (TT (10 + s0)) (JJ (10 + s0)) (OP (10 + s0)) (AD (20 + s0) 100) ns s0 k hns hn3 hs ha hk2' hmk) mwX4_back rfl ⟨by decide, by decide⟩ rfl (c_X5_back_st l D cA (AD 4) (TT 4) ns s0 k hnsR hn3 hs hk2' h26) mwX5_back rfl ⟨by decide, by decide⟩ (fun r hr => ⟨(-3), hr, fun r2 h2 => h2⟩) hl d hcat hc kk
  · refine PC_of F (wF cA (AD 2) (TT 2) ++ wF cA (AD 3) (TT 3) ++ wMk cA AD TT JJ OP LL s0 (1 - k) ++ wRs cA AD TT JJ OP LL s0 ns ++ wR cA (AD 4) (TT 4)) (c_X4_back_1 l D cA (AD 0) (AD 2 100) (AD 3 100) (TT 0) (OP 0) (AD 1) (TT 1) (AD (10 + s0)) (LL s0) (TT (10 + s0)) (JJ (10 + s0)) (OP (10 + s0)) (AD (20 + s0)) (TT (20 + s0)) (AD (30 + 2 * s0 + k)) (TT (30 + 2 * s0 + k)) (JJ (30 + 2 * s0 + k)) ns s0 k km k0 cnt hns hn3 hs ha hk2' hmk hcC hcn h00 hk0 hm0 hkm hLG.2.1 (by omega)) mwX4_back rfl ⟨by decide, by decide⟩ ⟨by decide, by decide⟩ rfl (hp.trans ((wAll_s cA AD TT JJ OP LL hs).trans (pmc (fun f h h0 hq => by
      have e2 := mk_two cA AD TT JJ OP LL s0 hk2' f
      rw [wMk_some (k := k) hmk] at e2
      simp only [h]; omega)))) hl d hcat hc (fun r u hpo => ?_) kk
    obtain ⟨rfl, eu⟩ := hpo
    refine ⟨_, rfl, RQ_of F AD (va_up (va_up TT (10 + s0) u.1) (20 + s0) u.2.2) (va_up JJ (10 + s0) u.2.1) OP LL ns (TT 4) (c_X5_back_ok l D cA (AD 4) (TT 4) ns s0 k km k0 cnt (LL s0) hnsR hn3 hs hk2' h26 hcR hcn h18 hk0 h27 hkm hLG.wf h21 hL8) mwX5_back rfl ⟨by decide, by decide⟩ (pmc (fun f h h0 hq => by
      have e1 := hq _ _ (wCl_op cA AD TT JJ OP LL hs hn3 u)
      have e2 := mk_two cA AD TT JJ OP LL s0 hk2' f
      rw [wMk_some (k := k) hmk] at e2
      simp only [h] at e1 ⊢; omega)) (fun r2 u2 hp2 => ?_)⟩
    obtain ⟨rfl, eu2⟩ := hp2
    refine ⟨rfl, cnt, cw, ko, ?_⟩
    have hB := back_ok hs3 hk2' hL8 hLG hk0 hkm hCF hMP hMJ
    have hKB : SK s0 (TT 4) (backR (TT 4) s0 (2 * s0 + k) km) := SK.back (fun i hi => hLG.wf i (by omega))
    have lo : ∀ r, r < 6 → backR (TT 4) s0 (2 * s0 + k) km r = TT 4 r := fun r hr => by
      unfold backR
      rw [bkL_o _ _ _ _ _ (by omega) (by omega), cpR_o _ _ _ _ _ (by omega), cpR_o _ _ _ _ _ (by omega), mkR_o _ _ _ _ (Or.inl hr)]
      simp only [st2, va_up]; rw [if_neg (by omega)]
    have hLB := hLG.cg lo
    by_cases z : k0 ≤ km
    · rw [if_pos z] at eu eu2
      subst eu eu2
      exact hRel.op (by omega) hs hkm (by omega) _ _ hB hKB (mr_back hs3)
    · rw [if_neg z] at eu eu2
      subst eu eu2
      exact hRel.op (by omega) hs hk0 (by omega) _ _ (hB.cat hs3 (by omega) (hLB.le hk0)) (hKB.tr (SK.cat hs3 (by omega) hL8 (fun i hi => hLB.wf i (by omega)))) (fun r i y => (mr_cat hs3 (by omega) (fun i hi => hLB.wf i (by omega)) r i y).trans (mr_back hs3 r i y))
theorem wCl_new (cA : Nat → ClassId) (AD : Nat → Nat → Nat) (TT : Nat → Nat → Nat → Int32) (JJ : Nat → Nat → Nat → Int64) (OP : Nat → Nat → Option Nat) (LL : Nat → Nat) {ns L : Nat} (x : Int32) (an af : Nat → Nat) (hn3 : ns < 3) : wCl cA (va_up (va_up AD (10 + ns) an) (20 + ns) af) (va_up (va_up (va_up TT 0 (st2 (TT 0) 4 0 (nI (ns + 1)))) (10 + ns) (newS x)) (20 + ns) (clr (fun _ _ => 0))) (va_up JJ (10 + ns) (fun _ _ => 0)) (va_up (va_up OP 0 (va_up (OP 0) ns (some (an 100)))) (10 + ns) (fun _ => none)) (va_up LL ns L) (ns + 1) = wX cA (AD 0) (AD 1 100) (AD 2 100) (AD 3 100) (st2 (TT 0) 4 0 (nI (ns + 1))) (va_up (OP 0) ns (some (an 100))) ++ wL cA (AD 1) (TT 1) ++ wF cA (AD 2) (TT 2) ++ wF cA (AD 3) (TT 3) ++ (wSv cA AD TT JJ OP LL ns ++ (wS cA an (af 100) L (newS x) (fun _ _ => 0) (fun _ => none) ++ wF cA af (clr (fun _ _ => 0)) ++ [] ++ [])) := by
  obtain ⟨TU, eU⟩ : ∃ z, z = va_up (va_up (va_up TT 0 (st2 (TT 0) 4 0 (nI (ns + 1)))) (10 + ns) (newS x)) (20 + ns) (clr (fun _ _ => 0)) := ⟨_, rfl⟩
  obtain ⟨JU, eJ⟩ : ∃ z, z = va_up JJ (10 + ns) (fun _ _ => 0) := ⟨_, rfl⟩
  obtain ⟨AU, eA⟩ : ∃ z, z = va_up (va_up AD (10 + ns) an) (20 + ns) af := ⟨_, rfl⟩
  obtain ⟨OU, eO⟩ : ∃ z, z = va_up (va_up OP 0 (va_up (OP 0) ns (some (an 100)))) (10 + ns) (fun _ => none) := ⟨_, rfl⟩
  obtain ⟨LU, eL⟩ : ∃ z, z = va_up LL ns L := ⟨_, rfl⟩
  have u0 : TU 0 = st2 (TT 0) 4 0 (nI (ns + 1)) := by rw [eU]; simp only [va_up]; rw [if_neg (by omega), if_neg (by omega), if_pos trivial]
  have u1 : TU (10 + ns) = newS x := by rw [eU]; simp only [va_up]; rw [if_neg (by omega), if_pos trivial]
  have u2 : TU (20 + ns) = clr (fun _ _ => 0) := by rw [eU]; exact if_pos rfl
  have uo : ∀ i, i ≠ 0 → i ≠ 10 + ns → i ≠ 20 + ns → TU i = TT i := fun i y z w => by rw [eU]; simp only [va_up]; rw [if_neg w, if_neg z, if_neg y]
  have ao : ∀ i, i ≠ 10 + ns → i ≠ 20 + ns → AU i = AD i := fun i z w => by rw [eA]; simp only [va_up]; rw [if_neg w, if_neg z]
  have a1 : AU (10 + ns) = an := by rw [eA]; simp only [va_up]; rw [if_neg (by omega), if_pos trivial]
  have a2 : AU (20 + ns) = af := by rw [eA]; exact if_pos rfl
  have o0 : OU 0 = va_up (OP 0) ns (some (an 100)) := by rw [eO]; simp only [va_up]; rw [if_neg (by omega), if_pos trivial]
  have o1 : OU (10 + ns) = fun _ => none := by rw [eO]; exact if_pos rfl
  have oo : ∀ i, i ≠ 0 → i ≠ 10 + ns → OU i = OP i := fun i z w => by rw [eO]; simp only [va_up]; rw [if_neg w, if_neg z]
  have jo : ∀ i, i ≠ 10 + ns → JU i = JJ i := fun i y => by rw [eJ]; exact if_neg y
  have j1 : JU (10 + ns) = fun _ _ => 0 := by rw [eJ]; exact if_pos rfl
  have l1 : LU ns = L := by rw [eL]; exact if_pos rfl
  have lo : ∀ i, i ≠ ns → LU i = LL i := fun i y => by rw [eL]; exact if_neg y
  rw [← eU, ← eJ, ← eA, ← eO, ← eL]
  unfold wCl wXX
  rw [show wSv cA AU TU JU OU LU (ns + 1) = wSv cA AU TU JU OU LU ns ++ wOne cA AU TU JU OU LU ns from rfl]
  rw [wSv_cg (AD := AD) (TT := TT) (JJ := JJ) (OP := OP) (LL := LL) (fun v hv => by unfold wOne wMk; rw [uo (10 + v) (by omega) (by omega) (by omega), uo (20 + v) (by omega) (by omega) (by omega), uo (30 + 2 * v + 0) (by omega) (by omega) (by omega), uo (30 + 2 * v + 1) (by omega) (by omega) (by omega), jo (10 + v) (by omega), jo (30 + 2 * v + 0) (by omega), jo (30 + 2 * v + 1) (by omega), ao (10 + v) (by omega) (by omega), ao (20 + v) (by omega) (by omega), ao (30 + 2 * v + 0) (by omega) (by omega), ao (30 + 2 * v + 1) (by omega) (by omega), oo (10 + v) (by omega) (by omega), lo v (by omega)])]
  have h2 : wOne cA AU TU JU OU LU ns = wS cA an (af 100) L (newS x) (fun _ _ => 0) (fun _ => none) ++ wF cA af (clr (fun _ _ => 0)) ++ [] ++ [] := by
    unfold wOne wMk
    rw [o1, u1, u2, j1, a1, a2, l1]
  rw [h2, u0, uo 1 (by omega) (by omega) (by omega), uo 2 (by omega) (by omega) (by omega), uo 3 (by omega) (by omega) (by omega), ao 0 (by omega) (by omega), ao 1 (by omega) (by omega), ao 2 (by omega) (by omega), ao 3 (by omega) (by omega), o0]
theorem P_solve {T ax ar index : Nat} (F : Fx p m c cc nL s args own meth ret D cA A) (hR : RelW cA T ax ar ws) (a1 a2 : Int32) (hl : Cond.methodLink own index yX4_solve ∈ T0) (d : decode cc pc = .ok (.invokevirtual index, 3)) (hcat : (rest.map fun v => v.category).sum ≤ 8) (hc : cells + 20 ≤ 600000 ∧ slots + 200 ≤ 7302250) (kk : ∀ x ws2, RQ p l e s m args below meth c Q nL D A cc own cA (T + 200) ax ar yX5_solve [.int a1, .int a2] x ws2 → Wx p l e room_1 s m args below meth c (cells + 20) (slots + 200) Q nL D A (pc + 3) lv (.int x :: rest) ws2) : Wx p l e room_1 s m args below meth c cells slots Q nL D A pc lv (.int a2 :: .int a1 :: .ref ax :: rest) ws := by
  obtain ⟨AD, TT, JJ, OP, LL, ns, cnt, cw, ko, hRel, hp, rfl, rfl⟩ := hR
  obtain ⟨⟨hcn, hcC, hcR, hLG⟩, ⟨hk2, hF2, hF4⟩, ⟨hcw, hcwR, hcw16, hth⟩, ⟨hko, hkoc, hFo⟩, ⟨hn3, hns, hnsR⟩, hS⟩ := id hRel
  by_cases c1 : nI 1 ≤ a2 ∧ a2 ≤ nI 8
  case neg =>
    exact PRO F hRel hp (wL cA (AD 1) (TT 1) ++ wF cA (AD 2) (TT 2) ++ wF cA (AD 3) (TT 3) ++ wSv cA AD TT JJ OP LL ns ++ wR cA (AD 4) (TT 4)) (pmc (fun f h h0 hq => by simp only [wAll, wXX, h]; omega)) (c_X4_solve_b l D cA (AD 0) (AD 1 100) (AD 2 100) (AD 3 100) (TT 0) (OP 0) a1 a2 c1) mwX4_solve rfl ⟨by decide, by decide⟩ rfl (c_X5_solve_b l D cA (AD 4) (TT 4) a1 a2 c1) mwX5_solve rfl ⟨by decide, by decide⟩ (fun r hr => ⟨(-2), hr, fun r2 h2 => h2⟩) hl d hcat hc kk
  by_cases c3 : ns = 3
  · subst c3
    exact PRO F hRel hp (wL cA (AD 1) (TT 1) ++ wF cA (AD 2) (TT 2) ++ wF cA (AD 3) (TT 3) ++ wSv cA AD TT JJ OP LL 3 ++ wR cA (AD 4) (TT 4)) (pmc (fun f h h0 hq => by simp only [wAll, wXX, h]; omega)) (c_X4_solve_f l D cA (AD 0) (AD 1 100) (AD 2 100) (AD 3 100) (TT 0) (OP 0) a1 a2 c1 hns) mwX4_solve rfl ⟨by decide, by decide⟩ rfl (c_X5_solve_f l D cA (AD 4) (TT 4) a1 a2 c1 hnsR) mwX5_solve rfl ⟨by decide, by decide⟩ (fun r hr => ⟨(-4), hr, fun r2 h2 => h2⟩) hl d hcat hc kk
  have hlt : ns < 3 := by omega
  obtain ⟨L0, hL0, rfl⟩ := wn1 (n := 8) (by decide) c1
  refine PC_of F (wL cA (AD 1) (TT 1) ++ wF cA (AD 2) (TT 2) ++ wF cA (AD 3) (TT 3) ++ wSv cA AD TT JJ OP LL ns ++ wR cA (AD 4) (TT 4)) (c_X4_solve_ok l D cA (AD 0) (AD 1 100) (AD 2 100) (AD 3 100) (TT 0) (OP 0) ns (L0 + 1) a1 hns hlt (by omega) (by omega)) mwX4_solve rfl ⟨by decide, by decide⟩ ⟨by decide, by decide⟩ rfl (hp.trans (pmc (fun f h h0 hq => by simp only [wAll, wXX, h]; omega))) hl d hcat hc (fun r u hpo => ?_) kk
  subst hpo
  obtain ⟨AD2, eA⟩ : ∃ z, z = va_up (va_up AD (10 + ns) u.1) (20 + ns) u.2 := ⟨_, rfl⟩
  have ao : ∀ i, i ≠ 10 + ns → i ≠ 20 + ns → AD2 i = AD i := fun i z w => by rw [eA]; simp only [va_up]; rw [if_neg w, if_neg z]
  refine ⟨_, rfl, RQ_of2 F AD2 (va_up (va_up (va_up TT 0 (st2 (TT 0) 4 0 (nI (ns + 1)))) (10 + ns) (newS a1)) (20 + ns) (clr (fun _ _ => 0))) (va_up JJ (10 + ns) (fun _ _ => 0)) (va_up (va_up OP 0 (va_up (OP 0) ns (some (u.1 100)))) (10 + ns) (fun _ => none)) (va_up LL ns (L0 + 1)) (ns + 1) (TT 4) (by rw [ao 0 (by omega) (by omega)]) (ao 4 (by omega) (by omega)) (c_X5_solve_ok l D cA (AD 4) (TT 4) ns (L0 + 1) a1 hnsR hlt (by omega) (by omega)) mwX5_solve rfl ⟨by decide, by decide⟩ (by
    rw [eA, wCl_new cA AD TT JJ OP LL a1 u.1 u.2 hlt]
    exact pmc (fun f h h0 hq => by simp only [h, h0]; omega)) (fun r2 u2 hp2 => ?_)⟩
  obtain ⟨rfl, rfl⟩ := hp2
  refine ⟨rfl, cnt, cw, ko, ?_⟩
  rw [eA]
  exact (hRel.new hlt (by omega) (by omega) a1 u.1 u.2).T (by omega)
end P3
