/-! THE FACTS, as tables: row 0 known, 1 came, 2 there, 3 length, 4 weight, 5 wish, 6 lock, 7 apart, 8 size. The log G: row 0 kind, 1 whom, 2 3 4 the numbers -/
def bitm (w : Nat) : Int32 := nI 1 <<< (nI w &&& 31)
def clr (M : Nat → Nat → Int32) : Nat → Nat → Int32 := fun k j => if (k = 0 ∨ k = 1) ∧ j = 0 then nI 0 else if (k = 2 ∨ k = 7) ∧ j < 16 then nI 0 else if k = 6 ∧ j < 16 then (-2) else if k = 8 ∧ j < 6 then nI 100 else M k j
def clrI (M : Nat → Nat → Int32) (i : Nat) : Nat → Nat → Int32 := fun k j => if (k = 0 ∨ k = 1) ∧ j = 0 then nI 0 else if (k = 2 ∨ k = 7) ∧ j < i then nI 0 else if k = 6 ∧ j < i then (-2) else M k j
def traitF (G : Nat → Nat → Int32) (i w : Nat) (F : Nat → Nat → Int32) : Nat → Nat → Int32 := st2 (st2 (st2 F 3 w (G 2 i)) 4 w (G 3 i)) 5 w (G 4 i)
def leaveI (F : Nat → Nat → Int32) (w n : Nat) : Nat → Nat → Int32 := fun k j => if k = 7 ∧ j < n then (st2 (st2 (st2 F 2 w (nI 0)) 6 w (-2)) 7 w (nI 0)) k j &&& (bitm w ^^^ (-1)) else (st2 (st2 (st2 F 2 w (nI 0)) 6 w (-2)) 7 w (nI 0)) k j
def partF (F : Nat → Nat → Int32) (a b : Nat) : Nat → Nat → Int32 := st2 (st2 F 7 a (F 7 a ||| bitm b)) 7 b (st2 F 7 a (F 7 a ||| bitm b) 7 b ||| bitm a)
def unpartF (F : Nat → Nat → Int32) (a b : Nat) : Nat → Nat → Int32 := st2 (st2 F 7 a (F 7 a &&& (bitm b ^^^ (-1)))) 7 b (st2 F 7 a (F 7 a &&& (bitm b ^^^ (-1))) 7 b &&& (bitm a ^^^ (-1)))
/-- one change more, of a job w -/
def stepJ (G : Nat → Nat → Int32) (i w : Nat) (F : Nat → Nat → Int32) : Nat → Nat → Int32 :=
  if G 0 i = nI 0 then traitF G i w (st2 (st2 F 2 w (nI 1)) 1 0 (nI (w + 1)))
  else if G 0 i = nI 1 then leaveI F w 16
  else if G 0 i = nI 2 then traitF G i w F
  else if G 0 i = nI 4 then partF F w (G 2 i).toNatClampNeg
  else if G 0 i = nI 5 then unpartF F w (G 2 i).toNatClampNeg
  else if G 0 i = nI 6 then st2 F 6 w (G 2 i)
  else st2 F 6 w (-2)
/-- one change more -/
def stepF (G : Nat → Nat → Int32) (i : Nat) (F : Nat → Nat → Int32) : Nat → Nat → Int32 :=
  if G 0 i = nI 3 then st2 F 8 (G 1 i).toNatClampNeg (G 2 i) else stepJ G i (G 1 i).toNatClampNeg F
/-- traits as the document bounds them -/
def trOk (a b c : Int32) : Prop := (nI 1 ≤ a ∧ a ≤ nI 100) ∧ (nI 0 ≤ b ∧ b ≤ nI 50) ∧ (nI 0 ≤ c ∧ c ≤ nI 5)
/-- a change as the log may hold it -/
def wfE (G : Nat → Nat → Int32) (i : Nat) : Prop := ∃ k w : Nat, G 0 i = nI k ∧ G 1 i = nI w ∧ k < 8 ∧ (k = 3 → w < 6 ∧ nI 0 ≤ G 2 i ∧ G 2 i ≤ nI 400) ∧ (k ≠ 3 → w < 16) ∧ (k = 4 ∨ k = 5 → ∃ b : Nat, b < 16 ∧ G 2 i = nI b) ∧ (k = 0 ∨ k = 2 → trOk (G 2 i) (G 3 i) (G 4 i)) ∧ (k = 6 → nI 0 ≤ G 2 i + 1 ∧ G 2 i + 1 ≤ nI 6)
/-- c changes from a on -/
def itF (G : Nat → Nat → Int32) (a : Nat) : Nat → (Nat → Nat → Int32) → (Nat → Nat → Int32)
  | 0, M => M
  | c + 1, M => st2 (stepF G (a + c) (itF G a c M)) 0 0 (nI (a + c + 1))
def becF (G : Nat → Nat → Int32) (k n : Nat) (M : Nat → Nat → Int32) : Nat → Nat → Int32 := if n < k then itF G 0 n (clr M) else itF G k (n - k) M
theorem clrI_0 (M : Nat → Nat → Int32) : clrI M 0 = st2 (st2 M 0 0 (nI 0)) 1 0 (nI 0) := by
  funext k j; simp only [clrI, st2_at]; repeat' split
  all_goals first | rfl | (exfalso; omega)
theorem clrI_s (M : Nat → Nat → Int32) (i : Nat) : st2 (st2 (st2 (clrI M i) 2 i (nI 0)) 6 i (-2)) 7 i (nI 0) = clrI M (i + 1) := by
  funext k j; simp only [clrI, st2_at]; repeat' split
  all_goals first | rfl | (exfalso; omega)
theorem clrI_16 (M : Nat → Nat → Int32) : va_up (clrI M 16) 8 (fl (clrI M 16 8) 6 (nI 100)) = clr M := by
  funext k j; unfold va_up; by_cases h : k = 8
  · subst h; by_cases hj : j < 6
    · simp [fl, clr, hj]
    · simp [fl, clr, clrI, hj]
  · simp [clr, clrI, h]
theorem leaveI_0 (F : Nat → Nat → Int32) (w : Nat) : leaveI F w 0 = st2 (st2 (st2 F 2 w (nI 0)) 6 w (-2)) 7 w (nI 0) := by
  funext k j; simp [leaveI]
theorem leaveI_s (F : Nat → Nat → Int32) (w n : Nat) : st2 (leaveI F w n) 7 n (leaveI F w n 7 n &&& (bitm w ^^^ (-1))) = leaveI F w (n + 1) := by
  funext k j; simp only [st2_at (leaveI F w n)]
  by_cases h : k = 7 ∧ j = n
  · obtain ⟨rfl, rfl⟩ := h
    simp [leaveI]
  · rw [if_neg h]; simp only [leaveI]
    by_cases h2 : k = 7 ∧ j < n
    · rw [if_pos h2, if_pos ⟨h2.1, by omega⟩]
    · rw [if_neg h2, if_neg (by omega)]
