/-! THE LAW'S WORLD: blocks in any order; calls out of it -/
theorem pmc {α : Type} {l1 l2 : List α} (h : ∀ (f : List α → Nat), (∀ x y, f (x ++ y) = f x + f y) → f [] = 0 → (∀ x y, x.Perm y → f x = f y) → f l1 = f l2) : l1.Perm l2 := by
  classical
  exact List.perm_iff_count.mpr (fun a => h (fun l => l.count a) (fun x y => List.count_append) rfl (fun x y p => p.count_eq a))
theorem va_P_perm {D : va_G} {cl : List vw_C} {ws ws' : va_W} {H : Heap} (h : ws.Perm ws') (hP : va_P D cl ws H) : va_P D cl ws' H := by
  intro k q hk
  obtain ⟨i, hi⟩ := List.getElem?_of_mem (h.mem_iff.mpr (List.mem_of_getElem? hk))
  exact hP i q hi
theorem va_D_perm {A : Nat → Prop} {ws ws' : va_W} (h : ws.Perm ws') (hD : va_D A ws) : va_D A ws' := by
  have p1 : ws.Pairwise (fun p q => p.1 ≠ q.1) := List.pairwise_iff_getElem.mpr (fun i j hi hj hij e => by
    have := hD.1 i j _ _ (List.getElem?_eq_getElem hi) (List.getElem?_eq_getElem hj) e
    omega)
  have p2 : ws'.Pairwise (fun p q => p.1 ≠ q.1) := h.pairwise p1 (fun {x y} e => Ne.symm e)
  have p3 := List.pairwise_iff_getElem.mp p2
  refine ⟨fun i j p q hi hj e => ?_, fun k q hk => ?_⟩
  · obtain ⟨li, ei⟩ := List.getElem?_eq_some_iff.mp hi
    obtain ⟨lj, ej⟩ := List.getElem?_eq_some_iff.mp hj
    rcases Nat.lt_trichotomy i j with z | z | z
    · exact absurd (by rw [ei, ej]; exact e) (p3 i j li lj z)
    · exact z
    · exact absurd (by rw [ei, ej]; exact e.symm) (p3 j i lj li z)
  · obtain ⟨i, hi⟩ := List.getElem?_of_mem (h.mem_iff.mpr (List.mem_of_getElem? hk))
    exact hD.2 i q hi
theorem nd_of {l : List Nat} (h : l.Nodup) : va_nd l = true := by
  induction l with
  | nil => rfl
  | cons a l ih =>
    rw [List.nodup_cons] at h
    simp [va_nd, h.1, ih h.2]
theorem map_left {α : Type} (a b : List α) : (List.range a.length).map (fun i => (a ++ b)[i]?) = a.map some := by
  apply List.ext_getElem?
  intro i
  by_cases h : i < a.length
  · simp [h, List.getElem?_append_left]
  · simp [h]
theorem map_right {α : Type} (a b : List α) : ((List.range b.length).map (fun i => i + a.length)).map (fun i => (a ++ b)[i]?) = b.map some := by
  apply List.ext_getElem?
  intro i
  by_cases h : i < b.length
  · simp [h]
    rw [List.getElem?_append_right (by omega), Nat.add_sub_cancel, List.getElem?_eq_getElem h]
  · simp [h]
theorem nd_right (n k : Nat) : va_nd ((List.range n).map (fun i => i + k)) = true := by
  apply nd_of
  rw [List.Nodup, List.pairwise_map]
  exact List.nodup_range.imp (fun {a b} h e => h (by omega))
section WB
variable {p : Program} {l : Launch} {e : Env} {R : Room} {s : State} {m : MethodId} {args : Array Value} {below : List Frame} {meth : Method} {c : Code} {cells slots : Nat} {Q : State → Prop} {cc : ByteArray} {nL : Nat} {own : String} {ret : Option FieldType} {D : va_G} {cA : Nat → ClassId} {A : Nat → Prop} {pc : Nat} {lv : List (Nat × Value)} {st : List Value} {ws : va_W}
theorem x_perm {ws' : va_W} (h : ws.Perm ws') (k : Wx p l e R s m args below meth c cells slots Q nL D A pc lv st ws') : Wx p l e R s m args below meth c cells slots Q nL D A pc lv st ws := fun H locs ls hP hD hS hl => k H locs ls (va_P_perm h hP) (va_D_perm h hD) hS hl
theorem x_callP {S : Type} {w0 : va_W} {post : Option Value → S → Prop} {wf : S → va_W} {mc ms n k : Nat} {y : MethodName} {bytes : ByteArray} {maxL : Nat} {rt : Option FieldType} {As : List Value} {b index : Nat} {C : String} {T : u_T} {N ci q0 : Nat} {fs : List Value} (F : Fx p m c cc nL s args own meth ret D cA A) (rest : List Value) (wr : va_W) (hp : ws.Perm (w0 ++ wr)) (hM : Cg l D cA y bytes maxL rt n mc ms (.ref b :: As) w0 post wf) (hw : Mw y C bytes maxL rt k) (hl : Cond.methodLink own index y ∈ T0) (hn0 : As.length = k) (hrc : w0[q0]? = some (b, .inr (ci, fs))) (hcl : vwCl[ci]? = some (C, T, N)) (hcat : (rest.map fun v => v.category).sum ≤ 8) (hRm : n + 1 ≤ R.frames ∧ 8 + (maxL + 11) + 36 * n ≤ R.locals) (hf : cells + mc ≤ R.cells ∧ slots + ms ≤ R.slots) (d : decode cc pc = .ok (.invokevirtual index, 3))
    (kk : ∀ (r : Option Value) (u : S), post r u → Wx p l e R s m args below meth c (cells + mc) (slots + ms) Q nL D A (pc + 3) lv (r.toList ++ rest) (wr ++ wf u)) : Wx p l e R s m args below meth c cells slots Q nL D A pc lv (As.reverse ++ .ref b :: rest) ws := by
  refine x_perm hp ?_
  exact x_callV F rest wr (List.range w0.length) ((List.range wr.length).map (fun i => i + w0.length)) hM hw hl hn0 hrc hcl rfl hcat hRm hf (map_left w0 wr) (map_right w0 wr) (nd_right _ _) (fun i hi hj => by
    obtain ⟨a, -, rfl⟩ := List.mem_map.mp hi
    have := List.mem_range.mp hj
    omega) (nd_of List.nodup_range) d kk
end WB
/-! the state of both sides: addresses AD, numbers TT, longs JJ, references OP, lengths LL; objects 0 the class's, 1 its log, 2 its latest facts, 3 the others, 4 the reference's, 10 + s a solve, 20 + s its facts, 30 + 2 s + k its mark k -/
section WW
variable (cA : Nat → ClassId) (AD : Nat → Nat → Nat) (TT : Nat → Nat → Nat → Int32) (JJ : Nat → Nat → Nat → Int64) (OP : Nat → Nat → Option Nat) (LL : Nat → Nat)
def wMk (s k : Nat) : va_W := match OP (10 + s) k with
  | none => []
  | some _ => wM cA (AD (30 + 2 * s + k)) (LL s) (TT (30 + 2 * s + k)) (JJ (30 + 2 * s + k))
def wOne (s : Nat) : va_W := wS cA (AD (10 + s)) (AD (20 + s) 100) (LL s) (TT (10 + s)) (JJ (10 + s)) (OP (10 + s)) ++ wF cA (AD (20 + s)) (TT (20 + s)) ++ wMk cA AD TT JJ OP LL s 0 ++ wMk cA AD TT JJ OP LL s 1
def wSv : Nat → va_W
  | 0 => []
  | n + 1 => wSv n ++ wOne cA AD TT JJ OP LL n
def wRs (s : Nat) : Nat → va_W
  | 0 => []
  | n + 1 => if n = s then wRs s n else wRs s n ++ wOne cA AD TT JJ OP LL n
def wXX : va_W := wX cA (AD 0) (AD 1 100) (AD 2 100) (AD 3 100) (TT 0) (OP 0)
def wAll (ns : Nat) : va_W := wXX cA AD TT OP ++ wL cA (AD 1) (TT 1) ++ wF cA (AD 2) (TT 2) ++ wF cA (AD 3) (TT 3) ++ wSv cA AD TT JJ OP LL ns ++ wR cA (AD 4) (TT 4)
theorem sv_out {s n : Nat} (hs : n ≤ s) : wRs cA AD TT JJ OP LL s n = wSv cA AD TT JJ OP LL n := by
  induction n with
  | zero => rfl
  | succ n ih => unfold wRs wSv; rw [if_neg (by omega), ih (by omega)]
theorem sv_split {s n : Nat} (hs : s < n) : (wSv cA AD TT JJ OP LL n).Perm (wOne cA AD TT JJ OP LL s ++ wRs cA AD TT JJ OP LL s n) := by
  induction n with
  | zero => exact absurd hs (Nat.not_lt_zero _)
  | succ n ih =>
    unfold wSv wRs
    by_cases e : n = s
    · subst e
      rw [if_pos rfl, sv_out cA AD TT JJ OP LL (Nat.le_refl _)]
      exact List.perm_append_comm
    · rw [if_neg e]
      have := ih (by omega)
      exact pmc (fun f h h0 hp => by have e := hp _ _ this; simp only [h] at e ⊢; omega)
theorem sv_split2 {s v n : Nat} (hv : v < n) (hne : v ≠ s) : ∃ w, (wRs cA AD TT JJ OP LL s n).Perm (wOne cA AD TT JJ OP LL v ++ w) := by
  induction n with
  | zero => exact absurd hv (Nat.not_lt_zero _)
  | succ n ih =>
    unfold wRs
    by_cases e : n = s
    · rw [if_pos e]; exact ih (by omega)
    · rw [if_neg e]
      by_cases e2 : n = v
      · subst e2; exact ⟨_, List.perm_append_comm⟩
      · obtain ⟨w, hw⟩ := ih (by omega)
        exact ⟨w ++ wOne cA AD TT JJ OP LL n, pmc (fun f h h0 hp => by have e := hp _ _ hw; simp only [h] at e ⊢; omega)⟩
end WW
theorem wRs_cg {cA : Nat → ClassId} {AD AD2 : Nat → Nat → Nat} {TT TT2 : Nat → Nat → Nat → Int32} {JJ JJ2 : Nat → Nat → Nat → Int64} {OP OP2 : Nat → Nat → Option Nat} {LL LL2 : Nat → Nat} {s n : Nat} (h : ∀ v, v < n → v ≠ s → wOne cA AD2 TT2 JJ2 OP2 LL2 v = wOne cA AD TT JJ OP LL v) : wRs cA AD2 TT2 JJ2 OP2 LL2 s n = wRs cA AD TT JJ OP LL s n := by
  induction n with
  | zero => rfl
  | succ n ih =>
    unfold wRs
    rw [ih (fun v hv hn => h v (by omega) hn)]
    by_cases e : n = s
    · rw [if_pos e, if_pos e]
    · rw [if_neg e, if_neg e, h n (by omega) e]
theorem wSv_cg {cA : Nat → ClassId} {AD AD2 : Nat → Nat → Nat} {TT TT2 : Nat → Nat → Nat → Int32} {JJ JJ2 : Nat → Nat → Nat → Int64} {OP OP2 : Nat → Nat → Option Nat} {LL LL2 : Nat → Nat} {n : Nat} (h : ∀ v, v < n → wOne cA AD2 TT2 JJ2 OP2 LL2 v = wOne cA AD TT JJ OP LL v) : wSv cA AD2 TT2 JJ2 OP2 LL2 n = wSv cA AD TT JJ OP LL n := by
  induction n with
  | zero => rfl
  | succ n ih =>
    unfold wSv
    rw [ih (fun v hv => h v (by omega)), h n (by omega)]
