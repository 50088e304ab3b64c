/-! pairs of calls: changes -/
theorem vup_self {α : Type} (f : Nat → α) (k : Nat) : va_up f k (f k) = f := by
  funext i; unfold va_up; by_cases h : i = k
  · rw [if_pos h, h]
  · rw [if_neg h]
theorem isJ_fr {A B : Nat → Nat → Int32} (h : FR A B) (x : Int32) : isJ A x ↔ isJ B x := by
  constructor
  · intro z
    refine ⟨z.1, ?_⟩
    obtain ⟨j, hj, rfl⟩ := wn (n := 15) (by decide) z.1
    have h2 := z.2
    rw [nI_clamp (by omega)] at h2 ⊢
    rw [← (h.1 j (by omega)).1]; exact h2
  · intro z
    refine ⟨z.1, ?_⟩
    obtain ⟨j, hj, rfl⟩ := wn (n := 15) (by decide) z.1
    have h2 := z.2
    rw [nI_clamp (by omega)] at h2 ⊢
    rw [(h.1 j (by omega)).1]; exact h2
/-- nothing was entered -/
theorem en_no {AD : Nat → Nat → Nat} {TT : Nat → Nat → Nat → Int32} {JJ : Nat → Nat → Nat → Int64} {OP : Nat → Nat → Option Nat} {LL : Nat → Nat} {ns T cnt cw ko : Nat} (hR : Rel AD TT JJ OP LL ns T cnt cw ko) {u : (Nat → Nat → Int32) × (Nat → Nat → Int32)} {u2 : Nat → Nat → Int32} (h1 : u = (TT 1, TT 2)) (h2 : u2 = TT 4) : ∃ cnt cw ko, Rel AD (va_up (va_up (va_up TT 1 u.1) 2 u.2) 4 u2) JJ OP LL ns (T + 200) cnt cw ko := by
  subst h1 h2
  refine ⟨cnt, cw, ko, ?_⟩
  show Rel AD (va_up (va_up (va_up TT 1 (TT 1)) 2 (TT 2)) 4 (TT 4)) JJ OP LL ns (T + 200) cnt cw ko
  rw [vup_self, vup_self, vup_self]
  exact hR.T (by omega)
theorem en_ok {AD : Nat → Nat → Nat} {TT : Nat → Nat → Nat → Int32} {JJ : Nat → Nat → Nat → Int64} {OP : Nat → Nat → Option Nat} {LL : Nat → Nat} {ns T cnt cw ko : Nat} (hR : Rel AD TT JJ OP LL ns T cnt cw ko) {a b c d e x x2 : Int32} {u : (Nat → Nat → Int32) × (Nat → Nat → Int32)} {u2 : Nat → Nat → Int32} (hv : wfV a b c d e) (h0 : ¬ a = nI 0) (hlk : a = nI 6 → ¬ TT 2 2 b.toNatClampNeg = 0) (hq : EnQ cnt (TT 1) (TT 2) a b c d e x u) (hr : EnR cnt (TT 4) a b c d e x2 u2) : x2 = x ∧ ∃ cnt cw ko, Rel AD (va_up (va_up (va_up TT 1 u.1) 2 u.2) 4 u2) JJ OP LL ns (T + 200) cnt cw ko := by
  have hn := hR.1.1
  rcases Nat.lt_or_ge cnt 120 with z | z
  · obtain ⟨rfl, rfl⟩ := hq.2 z
    obtain ⟨rfl, rfl⟩ := hr.2 z
    exact ⟨rfl, cnt + 1, cw, ko, (hR.enter z hv h0 hlk).T (by omega)⟩
  · have z2 : cnt = 120 := by omega
    obtain ⟨rfl, e1⟩ := hq.1 z2
    obtain ⟨rfl, e2⟩ := hr.1 z2
    exact ⟨rfl, en_no hR e1 e2⟩
theorem wCl_en (cA : Nat → ClassId) (AD : Nat → Nat → Nat) (TT : Nat → Nat → Nat → Int32) (JJ : Nat → Nat → Nat → Int64) (OP : Nat → Nat → Option Nat) (LL : Nat → Nat) (ns : Nat) (A B : Nat → Nat → Int32) : wCl cA AD (va_up (va_up TT 1 A) 2 B) JJ OP LL ns = wXX cA AD TT OP ++ wL cA (AD 1) A ++ wF cA (AD 2) B ++ wF cA (AD 3) (TT 3) ++ wSv cA AD TT JJ OP LL ns := by
  have u : ∀ i, i ≠ 1 → i ≠ 2 → va_up (va_up TT 1 A) 2 B i = TT i := fun i x y => by simp only [va_up]; rw [if_neg y, if_neg x]
  unfold wCl wXX
  rw [wSv_cg (AD := AD) (TT := TT) (JJ := JJ) (OP := OP) (LL := LL) (fun v _ => by unfold wOne wMk; rw [u (10 + v) (by omega) (by omega), u (20 + v) (by omega) (by omega), u (30 + 2 * v + 0) (by omega) (by omega), u (30 + 2 * v + 1) (by omega) (by omega)]), u 0 (by decide) (by decide), u 3 (by decide) (by decide), show va_up (va_up TT 1 A) 2 B 2 = B from if_pos rfl, show va_up (va_up TT 1 A) 2 B 1 = A from by simp [va_up]]
section P1
variable {p : Program} {l : Launch} {e : Env} {s : State} {m : MethodId} {args : Array Value} {below : List Frame} {meth : Method} {c : Code} {cells slots : Nat} {Q : State → Prop} {cc : ByteArray} {nL : Nat} {own : String} {ret : Option FieldType} {D : va_G} {cA : Nat → ClassId} {A : Nat → Prop} {pc : Nat} {lv : List (Nat × Value)} {rest : List Value} {ws : va_W}
theorem P_ent {y y2 : MethodName} {bytes bytes2 : ByteArray} {maxL n k maxL2 n2 k2 T cnt cw ko index : Nat} {As : List Value} {PQ : Int32 → (Nat → Nat → Int32) × (Nat → Nat → Int32) → Prop} {PR : Int32 → (Nat → Nat → Int32) → Prop} (F : Fx p m c cc nL s args own meth ret D cA A) {AD : Nat → Nat → Nat} {TT : Nat → Nat → Nat → Int32} {JJ : Nat → Nat → Nat → Int64} {OP : Nat → Nat → Option Nat} {LL : Nat → Nat} {ns : Nat} (hR : Rel AD TT JJ OP LL ns T cnt cw ko) (hp : ws.Perm (wAll cA AD TT JJ OP LL ns)) (hM : Cg l D cA y bytes maxL (some .int) n 0 0 (.ref (AD 0 100) :: As) ((wX cA (AD 0) (AD 1 100) (AD 2 100) (AD 3 100) (TT 0) (OP 0)) ++ (wL cA (AD 1) (TT 1)) ++ (wF cA (AD 2) (TT 2))) (fun r u => ∃ x, r = some (.int x) ∧ PQ x u) (fun u => (wX cA (AD 0) (AD 1 100) (AD 2 100) (AD 3 100) (TT 0) (OP 0)) ++ (wL cA (AD 1) u.1) ++ (wF cA (AD 2) u.2))) (hw : Mw y RX4 bytes maxL (some .int) k) (hn0 : As.length = k) (hRm : n + 1 ≤ 9 ∧ 8 + (maxL + 11) + 36 * n ≤ 332)
    (hM2 : Cg l D cA y2 bytes2 maxL2 (some .int) n2 0 0 (.ref (AD 4 100) :: As) (wR cA (AD 4) (TT 4)) (fun r u => ∃ x, r = some (.int x) ∧ PR x u) (fun u => wR cA (AD 4) u)) (hw2 : Mw y2 RX5 bytes2 maxL2 (some .int) k2) (hn2 : As.length = k2) (hRm2 : n2 + 1 ≤ 9 ∧ 8 + (maxL2 + 11) + 36 * n2 ≤ 332)
    (hx : ∀ x u, PQ x u → ∀ x2 u2, PR x2 u2 → x2 = x ∧ ∃ cnt cw ko, Rel AD (va_up (va_up (va_up TT 1 u.1) 2 u.2) 4 u2) JJ OP LL ns (T + 200) cnt cw ko)
    (hl : Cond.methodLink own index y ∈ T0) (d : decode cc pc = .ok (.invokevirtual index, 3)) (hcat : (rest.map fun v => v.category).sum ≤ 8) (hc : cells + 20 ≤ 600000 ∧ slots + 200 ≤ 7302250)
    (kk : ∀ x ws2, RQ p l e s m args below meth c Q nL D A cc own cA (T + 200) (AD 0 100) (AD 4 100) y2 As x ws2 → Wx p l e room_1 s m args below meth c (cells + 20) (slots + 200) Q nL D A (pc + 3) lv (.int x :: rest) ws2) : Wx p l e room_1 s m args below meth c cells slots Q nL D A pc lv (As.reverse ++ .ref (AD 0 100) :: rest) ws := by
  refine PC_of F (wF cA (AD 3) (TT 3) ++ wSv cA AD TT JJ OP LL ns ++ wR cA (AD 4) (TT 4)) hM hw hn0 hRm ⟨by omega, by omega⟩ rfl (hp.trans (pmc (fun f h h0 hq => by simp only [wAll, wXX, h]; omega))) hl d hcat hc (fun r u hpo => ?_) kk
  obtain ⟨x, rfl, h1⟩ := hpo
  refine ⟨x, rfl, RQ_of F AD (va_up (va_up TT 1 u.1) 2 u.2) JJ OP LL ns (TT 4) hM2 hw2 hn2 hRm2 (pmc (fun f h h0 hq => by simp only [wCl_en, wXX, h]; omega)) (fun r2 u2 hp2 => ?_)⟩
  obtain ⟨x2, rfl, h2⟩ := hp2
  obtain ⟨rfl, h3⟩ := hx x u h1 x2 u2 h2
  exact ⟨rfl, h3⟩
theorem P_go {T ax ar index : Nat} (F : Fx p m c cc nL s args own meth ret D cA A) (hR : RelW cA T ax ar ws) (a1 : Int32) (hl : Cond.methodLink own index yX4_go ∈ T0) (d : decode cc pc = .ok (.invokevirtual index, 3)) (hcat : (rest.map fun v => v.category).sum ≤ 8) (hc : cells + 20 ≤ 600000 ∧ slots + 200 ≤ 7302250) (kk : ∀ x ws2, RQ p l e s m args below meth c Q nL D A cc own cA (T + 200) ax ar yX5_go [.int a1] x ws2 → Wx p l e room_1 s m args below meth c (cells + 20) (slots + 200) Q nL D A (pc + 3) lv (.int x :: rest) ws2) : Wx p l e room_1 s m args below meth c cells slots Q nL D A pc lv (.int a1 :: .ref ax :: rest) ws := by
  obtain ⟨AD, TT, JJ, OP, LL, ns, cnt, cw, ko, hRel, hp, rfl, rfl⟩ := hR
  have hfr := hRel.2.1.2.2
  refine P_ent F hRel hp (c_X4_go l D cA (AD 0) (AD 3 100) (TT 0) (OP 0) (AD 1) (TT 1) (AD 2) (TT 2) cnt a1 hRel.1.2.1 hRel.1.1 hRel.2.1.1 hRel.1.2.2.2.2.1) mwX4_go rfl ⟨by decide, by decide⟩ (c_X5_go l D cA (AD 4) (TT 4) cnt a1 hRel.1.2.2.1 hRel.1.1) mwX5_go rfl ⟨by decide, by decide⟩ (fun x u hq x2 u2 hr => ?_) hl d hcat hc kk
  by_cases cj : isJ (TT 2) a1
  · exact en_ok hRel (by obtain ⟨j, hj, rfl, -⟩ := isJ_nat cj; exact wf_go hj) (by decide +kernel) (fun z => absurd z (by decide +kernel)) (hq.2 cj) (hr.2 ((isJ_fr hfr a1).mp cj))
  · obtain ⟨rfl, e1⟩ := hq.1 cj
    obtain ⟨rfl, e2⟩ := hr.1 (fun z => cj ((isJ_fr hfr a1).mpr z))
    exact ⟨rfl, en_no hRel e1 e2⟩
theorem P_turn {T ax ar index : Nat} (F : Fx p m c cc nL s args own meth ret D cA A) (hR : RelW cA T ax ar ws) (a1 a2 a3 a4 : Int32) (hl : Cond.methodLink own index yX4_turn ∈ T0) (d : decode cc pc = .ok (.invokevirtual index, 3)) (hcat : (rest.map fun v => v.category).sum ≤ 8) (hc : cells + 20 ≤ 600000 ∧ slots + 200 ≤ 7302250) (kk : ∀ x ws2, RQ p l e s m args below meth c Q nL D A cc own cA (T + 200) ax ar yX5_turn [.int a1, .int a2, .int a3, .int a4] x ws2 → Wx p l e room_1 s m args below meth c (cells + 20) (slots + 200) Q nL D A (pc + 3) lv (.int x :: rest) ws2) : Wx p l e room_1 s m args below meth c cells slots Q nL D A pc lv (.int a4 :: .int a3 :: .int a2 :: .int a1 :: .ref ax :: rest) ws := by
  obtain ⟨AD, TT, JJ, OP, LL, ns, cnt, cw, ko, hRel, hp, rfl, rfl⟩ := hR
  have hfr := hRel.2.1.2.2
  refine P_ent F hRel hp (c_X4_turn l D cA (AD 0) (AD 3 100) (TT 0) (OP 0) (AD 1) (TT 1) (AD 2) (TT 2) cnt a1 a2 a3 a4 hRel.1.2.1 hRel.1.1 hRel.2.1.1 hRel.1.2.2.2.2.1) mwX4_turn rfl ⟨by decide, by decide⟩ (c_X5_turn l D cA (AD 4) (TT 4) cnt a1 a2 a3 a4 hRel.1.2.2.1 hRel.1.1) mwX5_turn rfl ⟨by decide, by decide⟩ (fun x u hq x2 u2 hr => ?_) hl d hcat hc kk
  by_cases cj : isJ (TT 2) a1 ∧ trD a2 a3 a4
  · exact en_ok hRel (by obtain ⟨j, hj, rfl, -⟩ := isJ_nat cj.1; exact wf_turn hj cj.2) (by decide +kernel) (fun z => absurd z (by decide +kernel)) (hq.2 cj) (hr.2 ((and_congr (isJ_fr hfr a1) Iff.rfl).mp cj))
  · obtain ⟨rfl, e1⟩ := hq.1 cj
    obtain ⟨rfl, e2⟩ := hr.1 (fun z => cj ((and_congr (isJ_fr hfr a1) Iff.rfl).mpr z))
    exact ⟨rfl, en_no hRel e1 e2⟩
theorem P_size {T ax ar index : Nat} (F : Fx p m c cc nL s args own meth ret D cA A) (hR : RelW cA T ax ar ws) (a1 a2 : Int32) (hl : Cond.methodLink own index yX4_size ∈ T0) (d : decode cc pc = .ok (.invokevirtual index, 3)) (hcat : (rest.map fun v => v.category).sum ≤ 8) (hc : cells + 20 ≤ 600000 ∧ slots + 200 ≤ 7302250) (kk : ∀ x ws2, RQ p l e s m args below meth c Q nL D A cc own cA (T + 200) ax ar yX5_size [.int a1, .int a2] x ws2 → Wx p l e room_1 s m args below meth c (cells + 20) (slots + 200) Q nL D A (pc + 3) lv (.int x :: rest) ws2) : Wx p l e room_1 s m args below meth c cells slots Q nL D A pc lv (.int a2 :: .int a1 :: .ref ax :: rest) ws := by
  obtain ⟨AD, TT, JJ, OP, LL, ns, cnt, cw, ko, hRel, hp, rfl, rfl⟩ := hR
  have hfr := hRel.2.1.2.2
  refine P_ent F hRel hp (c_X4_size l D cA (AD 0) (AD 3 100) (TT 0) (OP 0) (AD 1) (TT 1) (AD 2) (TT 2) cnt a1 a2 hRel.1.2.1 hRel.1.1 hRel.2.1.1 hRel.1.2.2.2.2.1) mwX4_size rfl ⟨by decide, by decide⟩ (c_X5_size l D cA (AD 4) (TT 4) cnt a1 a2 hRel.1.2.2.1 hRel.1.1) mwX5_size rfl ⟨by decide, by decide⟩ (fun x u hq x2 u2 hr => ?_) hl d hcat hc kk
  by_cases cj : (nI 0 ≤ a1 ∧ a1 ≤ nI 5) ∧ nI 0 ≤ a2 ∧ a2 ≤ nI 400
  · exact en_ok hRel (by obtain ⟨j, hj, rfl⟩ := wn (n := 5) (by decide) cj.1; exact wf_size (by omega) cj.2) (by decide +kernel) (fun z => absurd z (by decide +kernel)) (hq.2 cj) (hr.2 ((Iff.rfl).mp cj))
  · obtain ⟨rfl, e1⟩ := hq.1 cj
    obtain ⟨rfl, e2⟩ := hr.1 (fun z => cj ((Iff.rfl).mpr z))
    exact ⟨rfl, en_no hRel e1 e2⟩
theorem P_lock {T ax ar index : Nat} (F : Fx p m c cc nL s args own meth ret D cA A) (hR : RelW cA T ax ar ws) (a1 a2 : Int32) (hl : Cond.methodLink own index yX4_lock ∈ T0) (d : decode cc pc = .ok (.invokevirtual index, 3)) (hcat : (rest.map fun v => v.category).sum ≤ 8) (hc : cells + 20 ≤ 600000 ∧ slots + 200 ≤ 7302250) (kk : ∀ x ws2, RQ p l e s m args below meth c Q nL D A cc own cA (T + 200) ax ar yX5_lock [.int a1, .int a2] x ws2 → Wx p l e room_1 s m args below meth c (cells + 20) (slots + 200) Q nL D A (pc + 3) lv (.int x :: rest) ws2) : Wx p l e room_1 s m args below meth c cells slots Q nL D A pc lv (.int a2 :: .int a1 :: .ref ax :: rest) ws := by
  obtain ⟨AD, TT, JJ, OP, LL, ns, cnt, cw, ko, hRel, hp, rfl, rfl⟩ := hR
  have hfr := hRel.2.1.2.2
  refine P_ent F hRel hp (c_X4_lock l D cA (AD 0) (AD 3 100) (TT 0) (OP 0) (AD 1) (TT 1) (AD 2) (TT 2) cnt a1 a2 hRel.1.2.1 hRel.1.1 hRel.2.1.1 hRel.1.2.2.2.2.1) mwX4_lock rfl ⟨by decide, by decide⟩ (c_X5_lock l D cA (AD 4) (TT 4) cnt a1 a2 hRel.1.2.2.1 hRel.1.1) mwX5_lock rfl ⟨by decide, by decide⟩ (fun x u hq x2 u2 hr => ?_) hl d hcat hc kk
  by_cases cj : isJ (TT 2) a1 ∧ (a2 = (-1) ∨ nI 0 ≤ a2 ∧ a2 ≤ nI 5)
  · exact en_ok hRel (by obtain ⟨j, hj, rfl, -⟩ := isJ_nat cj.1; exact wf_lock hj (lock_ok cj.2)) (by decide +kernel) (fun _ => cj.1.2) (hq.2 cj) (hr.2 ((and_congr (isJ_fr hfr a1) Iff.rfl).mp cj))
  · obtain ⟨rfl, e1⟩ := hq.1 cj
    obtain ⟨rfl, e2⟩ := hr.1 (fun z => cj ((and_congr (isJ_fr hfr a1) Iff.rfl).mpr z))
    exact ⟨rfl, en_no hRel e1 e2⟩
theorem P_free {T ax ar index : Nat} (F : Fx p m c cc nL s args own meth ret D cA A) (hR : RelW cA T ax ar ws) (a1 : Int32) (hl : Cond.methodLink own index yX4_free ∈ T0) (d : decode cc pc = .ok (.invokevirtual index, 3)) (hcat : (rest.map fun v => v.category).sum ≤ 8) (hc : cells + 20 ≤ 600000 ∧ slots + 200 ≤ 7302250) (kk : ∀ x ws2, RQ p l e s m args below meth c Q nL D A cc own cA (T + 200) ax ar yX5_free [.int a1] x ws2 → Wx p l e room_1 s m args below meth c (cells + 20) (slots + 200) Q nL D A (pc + 3) lv (.int x :: rest) ws2) : Wx p l e room_1 s m args below meth c cells slots Q nL D A pc lv (.int a1 :: .ref ax :: rest) ws := by
  obtain ⟨AD, TT, JJ, OP, LL, ns, cnt, cw, ko, hRel, hp, rfl, rfl⟩ := hR
  have hfr := hRel.2.1.2.2
  refine P_ent F hRel hp (c_X4_free l D cA (AD 0) (AD 3 100) (TT 0) (OP 0) (AD 1) (TT 1) (AD 2) (TT 2) cnt a1 hRel.1.2.1 hRel.1.1 hRel.2.1.1 hRel.1.2.2.2.2.1) mwX4_free rfl ⟨by decide, by decide⟩ (c_X5_free l D cA (AD 4) (TT 4) cnt a1 hRel.1.2.2.1 hRel.1.1) mwX5_free rfl ⟨by decide, by decide⟩ (fun x u hq x2 u2 hr => ?_) hl d hcat hc kk
  by_cases cj : isJ (TT 2) a1
  · have cj2 := (isJ_fr hfr a1).mp cj
    have hq2 := hq.2 cj
    have hr2 := hr.2 cj2
    have cj3 := cj
    obtain ⟨j, hj, rfl, -⟩ := isJ_nat cj
    rw [nI_clamp (by omega)] at hq2 hr2
    rw [← (hfr.1 j hj).2.1] at hr2
    by_cases c6 : TT 2 6 j = (-2)
    · obtain ⟨rfl, e1⟩ := hq2.1 c6
      obtain ⟨rfl, e2⟩ := hr2.1 c6
      exact ⟨rfl, en_no hRel e1 e2⟩
    · exact en_ok hRel (wf_free hj) (by decide +kernel) (fun z => absurd z (by decide +kernel)) (hq2.2 c6) (hr2.2 c6)
  · obtain ⟨rfl, e1⟩ := hq.1 cj
    obtain ⟨rfl, e2⟩ := hr.1 (fun z => cj ((isJ_fr hfr a1).mpr z))
    exact ⟨rfl, en_no hRel e1 e2⟩
theorem P_apart {T ax ar index : Nat} (F : Fx p m c cc nL s args own meth ret D cA A) (hR : RelW cA T ax ar ws) (a1 a2 a3 : Int32) (hl : Cond.methodLink own index yX4_apart ∈ T0) (d : decode cc pc = .ok (.invokevirtual index, 3)) (hcat : (rest.map fun v => v.category).sum ≤ 8) (hc : cells + 20 ≤ 600000 ∧ slots + 200 ≤ 7302250) (kk : ∀ x ws2, RQ p l e s m args below meth c Q nL D A cc own cA (T + 200) ax ar yX5_apart [.int a1, .int a2, .int a3] x ws2 → Wx p l e room_1 s m args below meth c (cells + 20) (slots + 200) Q nL D A (pc + 3) lv (.int x :: rest) ws2) : Wx p l e room_1 s m args below meth c cells slots Q nL D A pc lv (.int a3 :: .int a2 :: .int a1 :: .ref ax :: rest) ws := by
  obtain ⟨AD, TT, JJ, OP, LL, ns, cnt, cw, ko, hRel, hp, rfl, rfl⟩ := hR
  have hfr := hRel.2.1.2.2
  refine P_ent F hRel hp (c_X4_apart l D cA (AD 0) (AD 3 100) (TT 0) (OP 0) (AD 1) (TT 1) (AD 2) (TT 2) cnt a1 a2 a3 hRel.1.2.1 hRel.1.1 hRel.2.1.1 hRel.1.2.2.2.2.1) mwX4_apart rfl ⟨by decide, by decide⟩ (c_X5_apart l D cA (AD 4) (TT 4) cnt a1 a2 a3 hRel.1.2.2.1 hRel.1.1) mwX5_apart rfl ⟨by decide, by decide⟩ (fun x u hq x2 u2 hr => ?_) hl d hcat hc kk
  by_cases cj : isJ (TT 2) a1 ∧ isJ (TT 2) a2 ∧ ¬ a1 = a2
  · have cj2 : isJ (slc 4 (TT 4)) a1 ∧ isJ (slc 4 (TT 4)) a2 ∧ ¬ a1 = a2 := ⟨(isJ_fr hfr a1).mp cj.1, (isJ_fr hfr a2).mp cj.2.1, cj.2.2⟩
    have hq2 := hq.2 cj
    have hr2 := hr.2 cj2
    obtain ⟨j, hj, rfl, -⟩ := isJ_nat cj.1
    obtain ⟨k, hk, rfl, -⟩ := isJ_nat cj.2.1
    rw [nI_clamp (by omega)] at hq2 hr2
    rw [← (hfr.1 j hj).2.2.1] at hr2
    by_cases c7 : bz (TT 2 7 j >>> (nI k &&& 31) &&& nI 1 = nI 1) = a3
    · obtain ⟨rfl, e1⟩ := hq2.1 c7
      obtain ⟨rfl, e2⟩ := hr2.1 c7
      exact ⟨rfl, en_no hRel e1 e2⟩
    · have hq3 := hq2.2 c7
      have hr3 := hr2.2 c7
      by_cases c3 : a3 = 0
      · rw [if_pos c3] at hq3 hr3
        exact en_ok hRel (wf_near hj hk) (by decide +kernel) (fun z => absurd z (by decide +kernel)) hq3 hr3
      · rw [if_neg c3] at hq3 hr3
        exact en_ok hRel (wf_apart hj hk) (by decide +kernel) (fun z => absurd z (by decide +kernel)) hq3 hr3
  · obtain ⟨rfl, e1⟩ := hq.1 cj
    obtain ⟨rfl, e2⟩ := hr.1 (fun z => cj ⟨(isJ_fr hfr a1).mpr z.1, (isJ_fr hfr a2).mpr z.2.1, z.2.2⟩)
    exact ⟨rfl, en_no hRel e1 e2⟩
theorem P_come {T ax ar index : Nat} (F : Fx p m c cc nL s args own meth ret D cA A) (hR : RelW cA T ax ar ws) (a1 a2 a3 : Int32) (hl : Cond.methodLink own index yX4_come ∈ T0) (d : decode cc pc = .ok (.invokevirtual index, 3)) (hcat : (rest.map fun v => v.category).sum ≤ 8) (hc : cells + 20 ≤ 600000 ∧ slots + 200 ≤ 7302250) (kk : ∀ x ws2, RQ p l e s m args below meth c Q nL D A cc own cA (T + 200) ax ar yX5_come [.int a1, .int a2, .int a3] x ws2 → Wx p l e room_1 s m args below meth c (cells + 20) (slots + 200) Q nL D A (pc + 3) lv (.int x :: rest) ws2) : Wx p l e room_1 s m args below meth c cells slots Q nL D A pc lv (.int a3 :: .int a2 :: .int a1 :: .ref ax :: rest) ws := by
  obtain ⟨AD, TT, JJ, OP, LL, ns, cnt, cw, ko, hRel, hp, rfl, rfl⟩ := hR
  have hfr := hRel.2.1.2.2
  refine P_ent F hRel hp (c_X4_come l D cA (AD 0) (AD 3 100) (TT 0) (OP 0) (AD 1) (TT 1) (AD 2) (TT 2) cnt cw a1 a2 a3 hRel.1.2.1 hRel.1.1 hRel.2.1.1 hRel.1.2.2.2.2.1 hRel.2.2.1.1 hRel.2.2.1.2.2.1) mwX4_come rfl ⟨by decide, by decide⟩ (c_X5_come l D cA (AD 4) (TT 4) cnt cw a1 a2 a3 hRel.1.2.2.1 hRel.1.1 hRel.2.2.1.2.1 hRel.2.2.1.2.2.1) mwX5_come rfl ⟨by decide, by decide⟩ (fun x u hq x2 u2 hr => ?_) hl d hcat hc kk
  have hcw := hRel.2.2.1.2.2.1
  have hn := hRel.1.1
  by_cases cj : trD a1 a2 a3
  · rcases Nat.lt_or_ge cw 16 with w | w
    · have hq2 := (hq.2 cj).2 w
      have hr2 := (hr.2 cj).2 w
      rcases Nat.lt_or_ge cnt 120 with z | z
      · obtain ⟨rfl, rfl⟩ := hq2.2 z
        obtain ⟨rfl, rfl⟩ := hr2.2 z
        exact ⟨rfl, cnt + 1, cw + 1, ko, (hRel.come z w cj).T (by omega)⟩
      · have z2 : cnt = 120 := by omega
        obtain ⟨rfl, e1⟩ := hq2.1 z2
        obtain ⟨rfl, e2⟩ := hr2.1 z2
        exact ⟨rfl, en_no hRel e1 e2⟩
    · have w2 : cw = 16 := by omega
      obtain ⟨rfl, e1⟩ := (hq.2 cj).1 w2
      obtain ⟨rfl, e2⟩ := (hr.2 cj).1 w2
      exact ⟨rfl, en_no hRel e1 e2⟩
  · obtain ⟨rfl, e1⟩ := hq.1 cj
    obtain ⟨rfl, e2⟩ := hr.1 cj
    exact ⟨rfl, en_no hRel e1 e2⟩
end P1
