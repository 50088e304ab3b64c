/-! what the class's Solve computes: MS its numbers (1 plan, 2 best, 5 movable, 8 steps, 9 x, 10, 11), JS its longs (3 late, 6 planScore, 7 bestScore), M its facts -/
def flwS (G : Nat → Nat → Int32) (i : Nat) (MS : Nat → Nat → Int32) : Nat → Nat → Int32 :=
  if G 0 i = nI 0 ∨ G 0 i = nI 1 then st2 (st2 MS 1 (G 1 i).toNatClampNeg (-1)) 2 (G 1 i).toNatClampNeg (-1)
  else if G 0 i = nI 6 then st2 (st2 MS 1 (G 1 i).toNatClampNeg (G 2 i)) 2 (G 1 i).toNatClampNeg (G 2 i) else MS
def itS (G : Nat → Nat → Int32) (a : Nat) : Nat → (Nat → Nat → Int32) → (Nat → Nat → Int32)
  | 0, M => M
  | c + 1, M => flwS G (a + c) (itS G a c M)
abbrev SJM : Type := (Nat → Nat → Int32) × (Nat → Nat → Int64) × (Nat → Nat → Int32)
def anew (σ : SJM) : SJM := (σ.1, st3 (st3 σ.2.1 6 0 (scL σ.2.2 (σ.1 1))) 7 0 (scL (scT σ.2.2 (σ.1 1) 16) (σ.1 2)), scT (scT σ.2.2 (σ.1 1) 16) (σ.1 2) 16)
def keepB (σ : SJM) : SJM := if σ.2.1 6 0 < σ.2.1 7 0 then (st2 (va_up σ.1 2 (va_cpy (σ.1 1) (σ.1 2) 0 0 16)) 11 0 (σ.1 11 0 + nI 1), st3 σ.2.1 7 0 (σ.2.1 6 0), σ.2.2) else σ
def lateA (L : Nat) (σ : SJM) : SJM := (σ.1, va_up σ.2.1 3 (fl (σ.2.1 3) L (σ.2.1 6 0)), σ.2.2)
/-- catching up from k to n, where k is less than n -/
def catchS (G : Nat → Nat → Int32) (k n L : Nat) (σ : SJM) : SJM := lateA L (keepB (anew (itS G k (n - k) σ.1, σ.2.1, becF G k n σ.2.2)))
def unat (x : Int32) (k : Nat) : Nat := x.toBitVec.toNat / 2 ^ k
theorem unat_lt (x : Int32) {k : Nat} (h1 : 1 ≤ k) : unat x k < 2 ^ 31 := by
  unfold unat
  have h := x.toBitVec.isLt
  calc x.toBitVec.toNat / 2 ^ k ≤ x.toBitVec.toNat / 2 ^ 1 := Nat.div_le_div_left (Nat.pow_le_pow_right (by decide) h1) (by decide)
    _ < 2 ^ 31 := by omega
theorem ush_eq (x : Int32) (k : Nat) (hk : (((nI k).toUInt32 &&& Int32.toUInt32 31).toBitVec % 32).toNat = k) : (x.toUInt32 >>> ((nI k).toUInt32 &&& Int32.toUInt32 31)).toInt32 = nI (unat x k) := by
  apply Int32.toBitVec_inj.mp
  apply BitVec.eq_of_toNat_eq
  rw [pk_ushr x (nI k) k hk]
  have h : unat x k < 2 ^ 32 := Nat.lt_of_le_of_lt (Nat.div_le_self _ _) x.toBitVec.isLt
  rw [pk_tn h]
  rfl
def jIx (MS : Nat → Nat → Int32) (mm k : Nat) : Nat := (MS 5 (unat (MS 9 0) k % mm)).toNatClampNeg
/-- the plan that a step tries -/
def tpl (MS : Nat → Nat → Int32) (mm : Nat) : Nat → Int32 :=
  if unat (MS 9 0) 8 % 4 = 3 then upd (upd (MS 1) (jIx MS mm 16) (MS 1 (jIx MS mm 20))) (jIx MS mm 20) (MS 1 (jIx MS mm 16))
  else upd (MS 1) (jIx MS mm 16) (if unat (MS 9 0) 24 % 7 ≤ 5 then nI (unat (MS 9 0) 24 % 7) else (-1))
def tryS (mm : Nat) (late : Int64) (σ : SJM) : SJM :=
  if σ.2.1 6 0 < scL σ.2.2 (tpl σ.1 mm) ∧ late < scL σ.2.2 (tpl σ.1 mm) then (σ.1, σ.2.1, scT σ.2.2 (tpl σ.1 mm) 16)
  else (st2 (va_up σ.1 1 (tpl σ.1 mm)) 10 0 (σ.1 10 0 + nI 1), st3 σ.2.1 6 0 (scL σ.2.2 (tpl σ.1 mm)), scT σ.2.2 (tpl σ.1 mm) 16)
def turnX (σ : SJM) : SJM := (st2 σ.1 9 0 (σ.1 9 0 * nI 1103515245 + nI 12345), σ.2.1, σ.2.2)
def lateP (pl : Nat) (σ : SJM) : SJM := (σ.1, st3 σ.2.1 3 pl (σ.2.1 6 0), σ.2.2)
def ticS (t : Nat) (σ : SJM) : SJM := (st2 σ.1 8 0 (nI (t + 1)), σ.2.1, σ.2.2)
/-- one step, the t-th -/
def stepS (mm L t : Nat) (σ : SJM) : SJM := ticS t (keepB (lateP (t % L) (if 0 < mm then tryS mm (σ.2.1 3 (t % L)) (turnX σ) else turnX σ)))
def stepsS (mm L t : Nat) : Nat → SJM → SJM
  | 0, σ => σ
  | n + 1, σ => stepS mm L (t + n) (stepsS mm L t n σ)
theorem keepB_o (σ : SJM) (k : Nat) (h2 : k ≠ 2) (h11 : k ≠ 11) : (keepB σ).1 k = σ.1 k := by
  unfold keepB; split
  · simp [st2, va_up, h2, h11]
  · rfl
theorem tryS_o (mm : Nat) (late : Int64) (σ : SJM) (k : Nat) (h1 : k ≠ 1) (h10 : k ≠ 10) : (tryS mm late σ).1 k = σ.1 k := by
  unfold tryS; split
  · rfl
  · simp [st2, va_up, h1, h10]
theorem stepS_8 (mm L t : Nat) (σ : SJM) : (stepS mm L t σ).1 8 0 = nI (t + 1) := by
  unfold stepS ticS; simp [st2, va_up, upd]
theorem stepS_5 (mm L t : Nat) (σ : SJM) : (stepS mm L t σ).1 5 = σ.1 5 := by
  unfold stepS ticS lateP
  simp only [st2, va_up]
  rw [if_neg (by decide), keepB_o _ 5 (by decide) (by decide)]
  show (if 0 < mm then _ else _ : SJM).1 5 = _
  split
  · rw [tryS_o _ _ _ 5 (by decide) (by decide)]; rfl
  · rfl
theorem stepsS_5 (mm L t n : Nat) (σ : SJM) : (stepsS mm L t n σ).1 5 = σ.1 5 := by
  induction n with
  | zero => rfl
  | succ n ih => show (stepS mm L (t + n) (stepsS mm L t n σ)).1 5 = _; rw [stepS_5, ih]
theorem stepsS_8 (mm L t n : Nat) (σ : SJM) (h : σ.1 8 0 = nI t) : (stepsS mm L t n σ).1 8 0 = nI (t + n) := by
  cases n with
  | zero => exact h
  | succ n => exact stepS_8 mm L (t + n) _
/-- every number of the movable row is a job -/
theorem mvr_job (M : Nat → Nat → Int32) (f : Nat → Int32) (n : Nat) : ∀ i, i < mvc M n → ∃ j : Nat, j < n ∧ mvr M f n i = nI j := by
  induction n with
  | zero => intro i hi; exact absurd hi (Nat.not_lt_zero _)
  | succ n ih =>
    intro i hi
    unfold mvc at hi
    unfold mvr
    split at hi
    · rename_i h
      rw [if_pos h]
      by_cases e : i = mvc M n
      · exact ⟨n, by omega, by simp [upd, e]⟩
      · obtain ⟨j, hj, ej⟩ := ih i (by omega)
        exact ⟨j, by omega, by simp [upd, e, ej]⟩
    · rename_i h
      rw [if_neg h]
      obtain ⟨j, hj, ej⟩ := ih i hi
      exact ⟨j, by omega, ej⟩
/-- the plan as it was, behind a try that is taken back -/
theorem swap_back (p : Nat → Int32) (j k : Nat) : upd (upd (upd (upd p j (p k)) k (p j)) j (p j)) k (p k) = p := by
  funext i; unfold upd
  by_cases h1 : i = k
  · simp [h1]
  · by_cases h2 : i = j
    · subst h2; simp [h1]
    · simp [h1, h2]
theorem put_back (p : Nat → Int32) (j : Nat) (v : Int32) : upd (upd (upd p j v) j (p j)) j (p j) = p := by
  funext i; unfold upd
  by_cases h2 : i = j
  · simp [h2]
  · simp [h2]
theorem up_row (M : Nat → Nat → Int32) (k : Nat) : va_up M k (M k) = M := by
  funext i; unfold va_up; by_cases h : i = k
  · simp [h]
  · simp [h]
theorem st2_row (M : Nat → Nat → Int32) (k j : Nat) (v : Int32) (f : Nat → Int32) : st2 (va_up M k f) k j v = va_up M k (upd f j v) := by
  funext i; unfold st2 va_up; by_cases h : i = k
  · simp [h]
  · simp [h]
theorem st2_row0 (M : Nat → Nat → Int32) (k j : Nat) (v : Int32) : st2 M k j v = va_up M k (upd (M k) j v) := rfl
/-- a new solve's addresses -/
def adS (h q1 q2 q3 q4 q5 : Nat) : Nat → Nat := fun k => match k with
  | 1 => q1 | 2 => q2 | 3 => q3 | 4 => q4 | 5 => q5 | _ => h
def adM (h q1 q2 q3 : Nat) : Nat → Nat := fun k => match k with
  | 1 => q1 | 2 => q2 | 3 => q3 | _ => h
/-- a new solve's numbers -/
def newS (seed : Int32) : Nat → Nat → Int32 := fun k j => if k = 1 ∨ k = 2 then (if j < 16 then (-1) else 0) else if k = 9 then (if j = 0 then seed else 0) else 0
