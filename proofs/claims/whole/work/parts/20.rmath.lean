/-! THE REFERENCE, as a table M: rows 0 changes, 1..5 the log, 6 isThere, 7 length, 8 weight, 9 wish, 10 lockedTo, 11 apartOf (16 to a set of facts), 12 roomSize (6), 13 came, 14 rooms (16 to a plan), 15 hard, 16 soft, 17 solves, 18 taken .. 29 -/
def logR (M : Nat → Nat → Int32) : Nat → Nat → Int32 := fun k i => M (k + 1) i
/-- the facts f of it, in the class's rows -/
def slc (f : Nat) (M : Nat → Nat → Int32) : Nat → Nat → Int32 := fun k j => if k = 8 then M 12 (6 * f + j) else M (k + 4) (16 * f + j)
def fgI (M : Nat → Nat → Int32) (f n : Nat) : Nat → Nat → Int32 := fun k j => if (k = 6 ∨ k = 11) ∧ 16 * f ≤ j ∧ j < 16 * f + n then nI 0 else if k = 10 ∧ 16 * f ≤ j ∧ j < 16 * f + n then (-2) else M k j
def fgS (M : Nat → Nat → Int32) (f n : Nat) : Nat → Nat → Int32 := fun k j => if k = 12 ∧ 6 * f ≤ j ∧ j < 6 * f + n then nI 100 else fgI M f 16 k j
theorem fgI_0 (M : Nat → Nat → Int32) (f : Nat) : fgI M f 0 = M := by
  funext k j; unfold fgI; rw [if_neg (by omega), if_neg (by omega)]
theorem fgI_s (M : Nat → Nat → Int32) (f n : Nat) : st2 (st2 (st2 (fgI M f n) 6 (16 * f + n) (nI 0)) 10 (16 * f + n) (-2)) 11 (16 * f + n) (nI 0) = fgI M f (n + 1) := by
  funext k j; simp only [fgI, st2_at]; repeat' split
  all_goals first | rfl | (exfalso; omega)
theorem fgS_0 (M : Nat → Nat → Int32) (f : Nat) : fgS M f 0 = fgI M f 16 := by
  funext k j; unfold fgS; rw [if_neg (by omega)]
theorem fgS_s (M : Nat → Nat → Int32) (f n : Nat) : st2 (fgS M f n) 12 (6 * f + n) (nI 100) = fgS M f (n + 1) := by
  funext k j; simp only [fgS, st2_at]; repeat' split
  all_goals first | rfl | (exfalso; omega)
def tellR (M : Nat → Nat → Int32) (j i : Nat) : Nat → Nat → Int32 := st2 (st2 (st2 M 7 j (M 3 i)) 8 j (M 4 i)) 9 j (M 5 i)
def lvB (M : Nat → Nat → Int32) (f w : Nat) : Nat → Nat → Int32 := st2 (st2 (st2 M 6 (16 * f + w) (nI 0)) 10 (16 * f + w) (-2)) 11 (16 * f + w) (nI 0)
def lvR (M : Nat → Nat → Int32) (f w n : Nat) : Nat → Nat → Int32 := fun k j => if k = 11 ∧ 16 * f ≤ j ∧ j < 16 * f + n then lvB M f w k j &&& (bitm w ^^^ (-1)) else lvB M f w k j
theorem lvR_0 (M : Nat → Nat → Int32) (f w : Nat) : lvR M f w 0 = lvB M f w := by
  funext k j; unfold lvR; rw [if_neg (by omega)]
theorem lvR_s (M : Nat → Nat → Int32) (f w n : Nat) : st2 (lvR M f w n) 11 (16 * f + n) (lvR M f w n 11 (16 * f + n) &&& (bitm w ^^^ (-1))) = lvR M f w (n + 1) := by
  funext k j; rw [st2_at]
  by_cases h : k = 11 ∧ j = 16 * f + n
  · obtain ⟨rfl, rfl⟩ := h
    unfold lvR
    rw [if_pos ⟨rfl, rfl⟩, if_neg (by omega), if_pos (by omega)]
  · rw [if_neg h]; unfold lvR
    by_cases h2 : k = 11 ∧ 16 * f ≤ j ∧ j < 16 * f + n
    · rw [if_pos h2, if_pos (by omega)]
    · rw [if_neg h2, if_neg (by omega)]
theorem lvR_o (M : Nat → Nat → Int32) (f w n k : Nat) (h : k ≠ 11) : lvR M f w n k = lvB M f w k := by
  funext j; unfold lvR; rw [if_neg (fun z => h z.1)]
def prtR (M : Nat → Nat → Int32) (f a b : Nat) : Nat → Nat → Int32 := st2 (st2 M 11 (16 * f + a) (M 11 (16 * f + a) ||| bitm b)) 11 (16 * f + b) (st2 M 11 (16 * f + a) (M 11 (16 * f + a) ||| bitm b) 11 (16 * f + b) ||| bitm a)
def unpR (M : Nat → Nat → Int32) (f a b : Nat) : Nat → Nat → Int32 := st2 (st2 M 11 (16 * f + a) (M 11 (16 * f + a) &&& (bitm b ^^^ (-1)))) 11 (16 * f + b) (st2 M 11 (16 * f + a) (M 11 (16 * f + a) &&& (bitm b ^^^ (-1))) 11 (16 * f + b) &&& (bitm a ^^^ (-1)))
/-- apply(f, i) -/
def apR (M : Nat → Nat → Int32) (f i : Nat) : Nat → Nat → Int32 :=
  if M 1 i = nI 0 then tellR (st2 M 6 (16 * f + (M 2 i).toNatClampNeg) (nI 1)) (16 * f + (M 2 i).toNatClampNeg) i
  else if M 1 i = nI 1 then lvR M f (M 2 i).toNatClampNeg 16
  else if M 1 i = nI 2 then tellR M (16 * f + (M 2 i).toNatClampNeg) i
  else if M 1 i = nI 3 then st2 M 12 (6 * f + (M 2 i).toNatClampNeg) (M 3 i)
  else if M 1 i = nI 4 then prtR M f (M 2 i).toNatClampNeg (M 3 i).toNatClampNeg
  else if M 1 i = nI 5 then unpR M f (M 2 i).toNatClampNeg (M 3 i).toNatClampNeg
  else if M 1 i = nI 6 then st2 M 10 (16 * f + (M 2 i).toNatClampNeg) (M 3 i)
  else st2 M 10 (16 * f + (M 2 i).toNatClampNeg) (-2)
/-- which rows apply leaves -/
theorem apR_o (M : Nat → Nat → Int32) (f i k : Nat) (h : k < 6 ∨ 12 < k) : apR M f i k = M k := by
  unfold apR
  repeat' split
  all_goals first
    | (funext j; simp only [tellR, prtR, unpR, st2_at]; repeat' split) <;> first | rfl | (exfalso; omega)
    | (rw [lvR_o _ _ _ _ _ (by omega)]; funext j; simp only [lvB, st2_at]; repeat' split) <;> first | rfl | (exfalso; omega)
def itR (f : Nat) : Nat → (Nat → Nat → Int32) → (Nat → Nat → Int32)
  | 0, M => M
  | n + 1, M => apR (itR f n M) f n
theorem itR_o (f n : Nat) (M : Nat → Nat → Int32) (k : Nat) (h : k < 6 ∨ 12 < k) : itR f n M k = M k := by
  induction n with
  | zero => rfl
  | succ n ih => show apR (itR f n M) f n k = M k; rw [apR_o _ _ _ _ h, ih]
theorem wfE_log {M N : Nat → Nat → Int32} (h : ∀ k, k < 6 → N k = M k) {i : Nat} (hw : wfE (logR M) i) : wfE (logR N) i := by
  have e : ∀ k, k < 5 → logR N k i = logR M k i := fun k hk => congrFun (h (k + 1) (by omega)) i
  unfold wfE at hw ⊢
  rw [e 0 (by decide), e 1 (by decide), e 2 (by decide), e 3 (by decide), e 4 (by decide)]
  exact hw
theorem fgS_o (M : Nat → Nat → Int32) (f n k : Nat) (h : k < 6 ∨ 12 < k) : fgS M f n k = M k := by
  funext j; unfold fgS fgI; rw [if_neg (by omega), if_neg (by omega), if_neg (by omega)]
/-- the facts f made anew out of n changes -/
def mkR (M : Nat → Nat → Int32) (f n : Nat) : Nat → Nat → Int32 := itR f n (fgS M f 6)
theorem mkR_o (M : Nat → Nat → Int32) (f n k : Nat) (h : k < 6 ∨ 12 < k) : mkR M f n k = M k := by
  unfold mkR; rw [itR_o _ _ _ _ h, fgS_o _ _ _ _ h]
/-- a change is entered in the log -/
def enR (M : Nat → Nat → Int32) (n : Nat) (a b c d e : Int32) : Nat → Nat → Int32 := st2 (st2 (st2 (st2 (st2 (st2 M 1 n a) 2 n b) 3 n c) 4 n d) 5 n e) 0 0 (nI (n + 1))
def cpR (M : Nat → Nat → Int32) (a b n : Nat) : Nat → Nat → Int32 := fun k j => if k = 14 ∧ 16 * b ≤ j ∧ j < 16 * b + n then M 14 (16 * a + (j - 16 * b)) else M k j
theorem cpR_0 (M : Nat → Nat → Int32) (a b : Nat) : cpR M a b 0 = M := by
  funext k j; unfold cpR; rw [if_neg (by omega)]
theorem cpR_s (M : Nat → Nat → Int32) (a b n : Nat) (hn : n < 16) : st2 (cpR M a b n) 14 (16 * b + n) (cpR M a b n 14 (16 * a + n)) = cpR M a b (n + 1) := by
  have e : cpR M a b n 14 (16 * a + n) = M 14 (16 * a + n) := by
    unfold cpR
    by_cases h : a = b
    · subst h; rw [if_neg (by omega)]
    · rw [if_neg (by omega)]
  rw [e]
  funext k j; rw [st2_at]
  by_cases h : k = 14 ∧ j = 16 * b + n
  · obtain ⟨rfl, rfl⟩ := h
    unfold cpR
    rw [if_pos ⟨rfl, rfl⟩, if_pos (by omega), show 16 * b + n - 16 * b = n by omega]
  · rw [if_neg h]; unfold cpR
    by_cases h2 : k = 14 ∧ 16 * b ≤ j ∧ j < 16 * b + n
    · rw [if_pos h2, if_pos (by omega)]
    · rw [if_neg h2, if_neg (by omega)]
/-- the room of job j in a plan, by the facts own -/
def rmO (M : Nat → Nat → Int32) (plan own j : Nat) : Int32 := if M 6 (16 * own + j) = 0 then (-1) else M 14 (16 * plan + j)
theorem mvc_s (M : Nat → Nat → Int32) (n : Nat) : mvc M n ≤ mvc M (n + 1) := by
  show mvc M n ≤ if ¬ M 2 n = 0 ∧ M 6 n = (-2) then mvc M n + 1 else mvc M n
  split <;> omega
