/-! what the class's methods over facts compute, step by step -/
theorem wn {x : Int32} {n : Nat} (hn : n < 2 ^ 31) (h : nI 0 ≤ x ∧ x ≤ nI n) : ∃ j : Nat, j ≤ n ∧ x = nI j := by
  have h0 : ¬ x < 0 := by
    have := h.1
    rw [nI_0] at this
    exact Int32.not_lt.mpr this
  exact nI_of2 (M := nI n) (nI_toInt hn) h0 h.2
theorem wn_in {j n : Nat} (h : j ≤ n) (hn : n < 2 ^ 31) : nI 0 ≤ nI j ∧ nI j ≤ nI n := ⟨nI_le (Nat.zero_le _) (by omega), nI_le h hn⟩
/-- how many jobs below n are there -/
def thc (M : Nat → Nat → Int32) : Nat → Nat
  | 0 => 0
  | n + 1 => if M 2 n = 0 then thc M n else thc M n + 1
theorem thc_le (M : Nat → Nat → Int32) (n : Nat) : thc M n ≤ n := by
  induction n with
  | zero => exact Nat.le_refl _
  | succ n ih => unfold thc; split <;> omega
/-- how many jobs below n may be moved -/
def mvc (M : Nat → Nat → Int32) : Nat → Nat
  | 0 => 0
  | n + 1 => if ¬ M 2 n = 0 ∧ M 6 n = (-2) then mvc M n + 1 else mvc M n
theorem mvc_le (M : Nat → Nat → Int32) (n : Nat) : mvc M n ≤ n := by
  induction n with
  | zero => exact Nat.le_refl _
  | succ n ih => unfold mvc; split <;> omega
/-- the row of those jobs -/
def mvr (M : Nat → Nat → Int32) (f : Nat → Int32) : Nat → Nat → Int32
  | 0 => f
  | n + 1 => if ¬ M 2 n = 0 ∧ M 6 n = (-2) then upd (mvr M f n) (mvc M n) (nI n) else mvr M f n
def isRm (x : Int32) : Prop := nI 0 ≤ x ∧ x ≤ nI 5
/-- scoreOf's loads and guests (rows 9, 10) behind the jobs below n -/
def scT (M : Nat → Nat → Int32) (p : Nat → Int32) : Nat → (Nat → Nat → Int32)
  | 0 => va_up (va_up M 9 (fl (M 9) 6 (nI 0))) 10 (fl (M 10) 6 (nI 0))
  | j + 1 => if M 2 j = 0 then scT M p j else if nI 0 ≤ p j ∧ p j ≤ nI 5 then
      st2 (st2 (scT M p j) 10 (p j).toNatClampNeg (scT M p j 10 (p j).toNatClampNeg ||| bitm j)) 9 (p j).toNatClampNeg (scT M p j 9 (p j).toNatClampNeg + M 3 j) else scT M p j
def hdI (M : Nat → Nat → Int32) (p : Nat → Int32) : Nat → Int32
  | 0 => nI 0
  | j + 1 => if M 2 j = 0 then hdI M p j else if nI 0 ≤ p j ∧ p j ≤ nI 5 then hdI M p j + nI 10 * bcnt (M 7 j &&& scT M p j 10 (p j).toNatClampNeg) else hdI M p j
def absI (x : Int32) : Int32 := if 0 ≤ x then x else 0 - x
def sfI (M : Nat → Nat → Int32) (p : Nat → Int32) : Nat → Int32
  | 0 => nI 0
  | j + 1 => if M 2 j = 0 then sfI M p j else if nI 0 ≤ p j ∧ p j ≤ nI 5 then sfI M p j + M 4 j * absI (p j - M 5 j) else sfI M p j + (nI 7 * M 4 j + nI 1)
def hdO (T : Nat → Nat → Int32) (h : Int32) : Nat → Int32
  | 0 => h
  | r + 1 => hdO T h r + (if nI 0 < T 9 r - T 8 r then T 9 r - T 8 r else nI 0)
def scH (M : Nat → Nat → Int32) (p : Nat → Int32) : Int32 := hdO (scT M p 16) (hdI M p 16) 6
def scS (M : Nat → Nat → Int32) (p : Nat → Int32) : Int32 := sfI M p 16
def pkL (h s : Int32) : Int64 := h.toInt64 <<< ((nI 32).toInt64 &&& 63) + s.toInt64
def scL (M : Nat → Nat → Int32) (p : Nat → Int32) : Int64 := pkL (scH M p) (scS M p)
theorem scT_o (M : Nat → Nat → Int32) (p : Nat → Int32) (k : Nat) (h9 : k ≠ 9) (h10 : k ≠ 10) (n : Nat) : scT M p n k = M k := by
  induction n with
  | zero => simp [scT, va_up, h9, h10]
  | succ n ih =>
    unfold scT
    split
    · exact ih
    · split
      · simp only [st2, va_up, h9, h10, if_false]; exact ih
      · exact ih
theorem sc_no {M : Nat → Nat → Int32} {p : Nat → Int32} {j : Nat} (h : M 2 j = 0) : scT M p (j + 1) = scT M p j ∧ hdI M p (j + 1) = hdI M p j ∧ sfI M p (j + 1) = sfI M p j := by
  simp [scT, hdI, sfI, h]
theorem sc_rm {M : Nat → Nat → Int32} {p : Nat → Int32} {j r : Nat} (h : ¬ M 2 j = 0) (er : p j = nI r) (hr : r ≤ 5) :
    scT M p (j + 1) = st2 (st2 (scT M p j) 10 r (scT M p j 10 r ||| bitm j)) 9 r (scT M p j 9 r + M 3 j) ∧ hdI M p (j + 1) = hdI M p j + nI 10 * bcnt (M 7 j &&& scT M p j 10 r) ∧ sfI M p (j + 1) = sfI M p j + M 4 j * absI (nI r - M 5 j) := by
  have hq := wn_in (n := 5) hr (by decide)
  have ec : (nI r).toNatClampNeg = r := nI_clamp (by omega)
  simp only [scT, hdI, sfI, er, ec, if_neg h, if_pos hq, and_self]
theorem sc_nr {M : Nat → Nat → Int32} {p : Nat → Int32} {j : Nat} (h : ¬ M 2 j = 0) (hn : ¬ (nI 0 ≤ p j ∧ p j ≤ nI 5)) : scT M p (j + 1) = scT M p j ∧ hdI M p (j + 1) = hdI M p j ∧ sfI M p (j + 1) = sfI M p j + (nI 7 * M 4 j + nI 1) := by
  simp only [scT, hdI, sfI, if_neg h, if_neg hn, and_self]
/-- a new object's addresses -/
def adF (h q2 q3 q4 q5 q6 q7 q8 q9 q10 : Nat) : Nat → Nat := fun k => match k with
  | 2 => q2 | 3 => q3 | 4 => q4 | 5 => q5 | 6 => q6 | 7 => q7 | 8 => q8 | 9 => q9 | 10 => q10 | _ => h
def adL (h q0 q1 q2 q3 q4 : Nat) : Nat → Nat := fun k => match k with
  | 0 => q0 | 1 => q1 | 2 => q2 | 3 => q3 | 4 => q4 | _ => h
/-- a change is entered -/
def addL (ML : Nat → Nat → Int32) (n : Nat) (a b c d e : Int32) : Nat → Nat → Int32 := st2 (st2 (st2 (st2 (st2 (st2 ML 0 n a) 1 n b) 2 n c) 3 n d) 4 n e) 5 0 (nI (n + 1))
