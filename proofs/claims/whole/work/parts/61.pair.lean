/-! A PAIR OF CALLS: the class's, then the reference's -/
section PW
variable (cA : Nat → ClassId) (AD : Nat → Nat → Nat) (TT : Nat → Nat → Nat → Int32) (JJ : Nat → Nat → Nat → Int64) (OP : Nat → Nat → Option Nat) (LL : Nat → Nat)
def wCl (ns : Nat) : va_W := wXX cA AD TT OP ++ wL cA (AD 1) (TT 1) ++ wF cA (AD 2) (TT 2) ++ wF cA (AD 3) (TT 3) ++ wSv cA AD TT JJ OP LL ns
theorem wOne_4 (N : Nat → Nat → Int32) (s : Nat) : wOne cA AD (va_up TT 4 N) JJ OP LL s = wOne cA AD TT JJ OP LL s := by
  have u : ∀ i, i ≠ 4 → va_up TT 4 N i = TT i := fun i hi => if_neg hi
  unfold wOne wMk
  rw [u (10 + s) (by omega), u (20 + s) (by omega), u (30 + 2 * s + 0) (by omega), u (30 + 2 * s + 1) (by omega)]
theorem wAll_4 (N : Nat → Nat → Int32) (ns : Nat) : wAll cA AD (va_up TT 4 N) JJ OP LL ns = wCl cA AD TT JJ OP LL ns ++ wR cA (AD 4) N := by
  have u : ∀ i, i ≠ 4 → va_up TT 4 N i = TT i := fun i hi => if_neg hi
  unfold wAll wCl wXX
  rw [wSv_cg (fun v _ => wOne_4 cA AD TT JJ OP LL N v), u 0 (by decide), u 1 (by decide), u 2 (by decide), u 3 (by decide), show va_up TT 4 N 4 = N from if_pos rfl]
end PW
section PR
variable {p : Program} {l : Launch} {e : Env} {s : State} {m : MethodId} {args : Array Value} {below : List Frame} {meth : Method} {c : Code} {cells slots : Nat} {Q : State → Prop} {cc : ByteArray} {nL : Nat} {own : String} {ret : Option FieldType} {D : va_G} {cA : Nat → ClassId} {A : Nat → Prop} {pc : Nat} {lv : List (Nat × Value)} {rest : List Value} {ws : va_W}
/-- the reference's call at the world ws answers x, and the relation stands behind it -/
def RQ (p : Program) (l : Launch) (e : Env) (s : State) (m : MethodId) (args : Array Value) (below : List Frame) (meth : Method) (c : Code) (Q : State → Prop) (nL : Nat) (D : va_G) (A : Nat → Prop) (cc : ByteArray) (own : String) (cA : Nat → ClassId) (T ax ar : Nat) (y : MethodName) (As : List Value) (x : Int32) (ws : va_W) : Prop :=
  ∀ (pc2 i2 : Nat) (lv2 : List (Nat × Value)) (rest2 : List Value) (c2 s2 : Nat), Cond.methodLink own i2 y ∈ T0 → decode cc pc2 = .ok (.invokevirtual i2, 3) → (rest2.map fun v => v.category).sum ≤ 8 → c2 ≤ 600000 → s2 ≤ 7302250 →
    (∀ ws2, RelW cA T ax ar ws2 → Wx p l e room_1 s m args below meth c c2 s2 Q nL D A (pc2 + 3) lv2 (.int x :: rest2) ws2) → Wx p l e room_1 s m args below meth c c2 s2 Q nL D A pc2 lv2 (As.reverse ++ .ref ar :: rest2) ws
theorem RQ_of {y : MethodName} {bytes : ByteArray} {maxL n k T : Nat} {As : List Value} {post : Option Value → (Nat → Nat → Int32) → Prop} {x : Int32} (F : Fx p m c cc nL s args own meth ret D cA A) (AD : Nat → Nat → Nat) (TT : Nat → Nat → Nat → Int32) (JJ : Nat → Nat → Nat → Int64) (OP : Nat → Nat → Option Nat) (LL : Nat → Nat) (ns : Nat) (N : Nat → Nat → Int32) (hM : Cg l D cA y bytes maxL (some .int) n 0 0 (.ref (AD 4 100) :: As) (wR cA (AD 4) N) post (fun u => wR cA (AD 4) u)) (hw : Mw y RX5 bytes maxL (some .int) k) (hn0 : As.length = k) (hRm : n + 1 ≤ 9 ∧ 8 + (maxL + 11) + 36 * n ≤ 332) (hp : ws.Perm (wCl cA AD TT JJ OP LL ns ++ wR cA (AD 4) N)) (hx : ∀ r u, post r u → r = some (.int x) ∧ ∃ cnt cw ko, Rel AD (va_up TT 4 u) JJ OP LL ns T cnt cw ko) : RQ p l e s m args below meth c Q nL D A cc own cA T (AD 0 100) (AD 4 100) y As x ws := by
  intro pc2 i2 lv2 rest2 c2 s2 hl d hcat h1 h2 kk
  refine x_callP (q0 := 0) F rest2 (wCl cA AD TT JJ OP LL ns) (hp.trans List.perm_append_comm) hM hw hl hn0 rfl rfl hcat hRm ⟨h1, h2⟩ d (fun r u hpo => ?_)
  obtain ⟨rfl, cnt, cw, ko, hR⟩ := hx r u hpo
  exact kk _ ⟨AD, va_up TT 4 u, JJ, OP, LL, ns, cnt, cw, ko, hR, by rw [wAll_4], rfl, rfl⟩
theorem RQ_ro {y : MethodName} {bytes : ByteArray} {maxL n k T cnt cw ko : Nat} {As : List Value} {post : Option Value → Prop} {x : Int32} (F : Fx p m c cc nL s args own meth ret D cA A) (AD : Nat → Nat → Nat) (TT : Nat → Nat → Nat → Int32) (JJ : Nat → Nat → Nat → Int64) (OP : Nat → Nat → Option Nat) (LL : Nat → Nat) (ns : Nat) (hR : Rel AD TT JJ OP LL ns T cnt cw ko) (hM : Cr l D cA y bytes maxL (some .int) n (.ref (AD 4 100) :: As) (wR cA (AD 4) (TT 4)) post) (hw : Mw y RX5 bytes maxL (some .int) k) (hn0 : As.length = k) (hRm : n + 1 ≤ 9 ∧ 8 + (maxL + 11) + 36 * n ≤ 332) (hp : ws.Perm (wAll cA AD TT JJ OP LL ns)) (hx : ∀ r, post r → r = some (.int x)) : RQ p l e s m args below meth c Q nL D A cc own cA T (AD 0 100) (AD 4 100) y As x ws := by
  intro pc2 i2 lv2 rest2 c2 s2 hl d hcat h1 h2 kk
  refine x_callP (q0 := 0) F rest2 (wCl cA AD TT JJ OP LL ns) (hp.trans List.perm_append_comm) hM hw hl hn0 rfl rfl hcat hRm ⟨h1, h2⟩ d (fun r u hpo => ?_)
  obtain rfl := hx r hpo
  exact kk _ ⟨AD, TT, JJ, OP, LL, ns, cnt, cw, ko, hR, List.Perm.refl _, rfl, rfl⟩
theorem PC_of {S : Type} {y y2 : MethodName} {bytes : ByteArray} {maxL n k mc ms T ax ar index b : Nat} {As : List Value} {w0 : va_W} {post : Option Value → S → Prop} {wf : S → va_W} {fs : List Value} (F : Fx p m c cc nL s args own meth ret D cA A) (wr : va_W) (hM : Cg l D cA y bytes maxL (some .int) n mc ms (.ref b :: As) w0 post wf) (hw : Mw y RX4 bytes maxL (some .int) k) (hn0 : As.length = k) (hRm : n + 1 ≤ 9 ∧ 8 + (maxL + 11) + 36 * n ≤ 332) (hms : mc ≤ 20 ∧ ms ≤ 200) (hrc : w0[0]? = some (b, .inr (4, fs))) (hp : ws.Perm (w0 ++ wr)) (hl : Cond.methodLink own index y ∈ T0) (d : decode cc pc = .ok (.invokevirtual index, 3)) (hcat : (rest.map fun v => v.category).sum ≤ 8) (hc : cells + 20 ≤ 600000 ∧ slots + 200 ≤ 7302250)
    (hx : ∀ r u, post r u → ∃ x, r = some (.int x) ∧ RQ p l e s m args below meth c Q nL D A cc own cA T ax ar y2 As x (wr ++ wf u))
    (kk : ∀ x ws2, RQ p l e s m args below meth c Q nL D A cc own cA T ax ar y2 As x ws2 → Wx p l e room_1 s m args below meth c (cells + 20) (slots + 200) Q nL D A (pc + 3) lv (.int x :: rest) ws2) : Wx p l e room_1 s m args below meth c cells slots Q nL D A pc lv (As.reverse ++ .ref b :: rest) ws := by
  refine x_callP (q0 := 0) F rest wr hp hM hw hl hn0 hrc rfl hcat hRm ⟨?_, ?_⟩ d (fun r u hpo => ?_)
  · show cells + mc ≤ 600000; omega
  · show slots + ms ≤ 7302250; omega
  · obtain ⟨x, rfl, hq⟩ := hx r u hpo
    exact x_widen (by omega) (by omega) (kk x _ hq)
/-- both calls only read -/
theorem PRO {y y2 : MethodName} {bytes bytes2 : ByteArray} {maxL n k maxL2 n2 k2 T cnt cw ko index : Nat} {As : List Value} {w0 : va_W} {post post2 : Option Value → Prop} {fs : List Value} (F : Fx p m c cc nL s args own meth ret D cA A) {AD : Nat → Nat → Nat} {TT : Nat → Nat → Nat → Int32} {JJ : Nat → Nat → Nat → Int64} {OP : Nat → Nat → Option Nat} {LL : Nat → Nat} {ns : Nat} (hR : Rel AD TT JJ OP LL ns T cnt cw ko) (hp : ws.Perm (wAll cA AD TT JJ OP LL ns)) (wr : va_W) (hpw : (wAll cA AD TT JJ OP LL ns).Perm (w0 ++ wr)) (hM : Cr l D cA y bytes maxL (some .int) n (.ref (AD 0 100) :: As) w0 post) (hw : Mw y RX4 bytes maxL (some .int) k) (hn0 : As.length = k) (hRm : n + 1 ≤ 9 ∧ 8 + (maxL + 11) + 36 * n ≤ 332) (hrc : w0[0]? = some (AD 0 100, .inr (4, fs)))
    (hM2 : Cr l D cA y2 bytes2 maxL2 (some .int) n2 (.ref (AD 4 100) :: As) (wR cA (AD 4) (TT 4)) post2) (hw2 : Mw y2 RX5 bytes2 maxL2 (some .int) k2) (hn2 : As.length = k2) (hRm2 : n2 + 1 ≤ 9 ∧ 8 + (maxL2 + 11) + 36 * n2 ≤ 332) (hx : ∀ r, post r → ∃ x, r = some (.int x) ∧ ∀ r2, post2 r2 → r2 = some (.int x))
    (hl : Cond.methodLink own index y ∈ T0) (d : decode cc pc = .ok (.invokevirtual index, 3)) (hcat : (rest.map fun v => v.category).sum ≤ 8) (hc : cells + 20 ≤ 600000 ∧ slots + 200 ≤ 7302250)
    (kk : ∀ x ws2, RQ p l e s m args below meth c Q nL D A cc own cA (T + 200) (AD 0 100) (AD 4 100) y2 As x ws2 → Wx p l e room_1 s m args below meth c (cells + 20) (slots + 200) Q nL D A (pc + 3) lv (.int x :: rest) ws2) : Wx p l e room_1 s m args below meth c cells slots Q nL D A pc lv (As.reverse ++ .ref (AD 0 100) :: rest) ws := by
  refine PC_of F wr hM hw hn0 hRm ⟨by omega, by omega⟩ hrc (hp.trans hpw) hl d hcat hc (fun r u hpo => ?_) kk
  obtain ⟨x, rfl, h2⟩ := hx r hpo
  exact ⟨x, rfl, RQ_ro F AD TT JJ OP LL ns (hR.T (by omega)) hM2 hw2 hn2 hRm2 (List.perm_append_comm.trans hpw.symm) h2⟩
end PR
