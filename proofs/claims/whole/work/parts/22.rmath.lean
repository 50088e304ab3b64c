/-! the reference's judging of a plan -/
def jst (M : Nat → Nat → Int32) (h s : Int32) : Nat → Nat → Int32 := st2 (st2 M 15 0 h) 16 0 s
theorem jst_h (M : Nat → Nat → Int32) (h s h2 : Int32) : st2 (jst M h s) 15 0 h2 = jst M h2 s := by
  funext k j; simp only [jst, st2_at]; repeat' split
  all_goals first | rfl | (exfalso; omega)
theorem jst_s (M : Nat → Nat → Int32) (h s s2 : Int32) : st2 (jst M h s) 16 0 s2 = jst M h s2 := by
  funext k j; simp only [jst, st2_at]; repeat' split
  all_goals first | rfl | (exfalso; omega)
theorem jst_o (M : Nat → Nat → Int32) (h s : Int32) (k : Nat) (h1 : k ≠ 15) (h2 : k ≠ 16) : jst M h s k = M k := by
  simp [jst, st2, va_up, h1, h2]
def ldR (M : Nat → Nat → Int32) (pl f ow r : Nat) : Nat → Int32
  | 0 => nI 0
  | n + 1 => ldR M pl f ow r n + (if ¬ M 6 (16 * f + n) = 0 ∧ rmO M pl ow n = nI r then M 7 (16 * f + n) else nI 0)
def ovR (M : Nat → Nat → Int32) (pl f ow : Nat) : Nat → Int32
  | 0 => nI 0
  | r + 1 => ovR M pl f ow r + (if ldR M pl f ow r 16 ≤ M 12 (6 * f + r) then nI 0 else ldR M pl f ow r 16 - M 12 (6 * f + r))
def sfR (M : Nat → Nat → Int32) (pl f ow : Nat) : Nat → Int32
  | 0 => nI 0
  | n + 1 => if M 6 (16 * f + n) = 0 then sfR M pl f ow n else sfR M pl f ow n + (if rmO M pl ow n = (-1) then nI 7 * M 8 (16 * f + n) + nI 1 else M 8 (16 * f + n) * absI (rmO M pl ow n - M 9 (16 * f + n)))
def prI (M : Nat → Nat → Int32) (pl f ow n : Nat) (h : Int32) : Nat → Int32
  | 0 => h
  | k + 1 => prI M pl f ow n h k + (if ¬ M 6 (16 * f + k) = 0 ∧ M 11 (16 * f + n) >>> (nI k &&& 31) &&& nI 1 = nI 1 ∧ rmO M pl ow k = rmO M pl ow n then nI 10 else nI 0)
def hdR (M : Nat → Nat → Int32) (pl f ow : Nat) : Nat → Int32
  | 0 => ovR M pl f ow 6
  | n + 1 => if M 6 (16 * f + n) = 0 then hdR M pl f ow n else if rmO M pl ow n = (-1) then hdR M pl f ow n else prI M pl f ow n (hdR M pl f ow n) n
/-- judge(pl, f, ow) -/
def jdg (M : Nat → Nat → Int32) (pl f ow : Nat) : Nat → Nat → Int32 := jst M (hdR M pl f ow 16) (sfR M pl f ow 16)
theorem jdg_o (M : Nat → Nat → Int32) (pl f ow k : Nat) (h1 : k ≠ 15) (h2 : k ≠ 16) : jdg M pl f ow k = M k := jst_o _ _ _ _ h1 h2
/-- fillLate(s): L places -/
def flI (M : Nat → Nat → Int32) (s n : Nat) (h f : Int32) : Nat → Nat → Int32 := fun k j => if k = 22 ∧ 8 * s ≤ j ∧ j < 8 * s + n then h else if k = 23 ∧ 8 * s ≤ j ∧ j < 8 * s + n then f else M k j
theorem flI_0 (M : Nat → Nat → Int32) (s : Nat) (h f : Int32) : flI M s 0 h f = M := by
  funext k j; unfold flI; rw [if_neg (by omega), if_neg (by omega)]
theorem flI_s (M : Nat → Nat → Int32) (s n : Nat) (h f : Int32) : st2 (st2 (flI M s n h f) 22 (8 * s + n) h) 23 (8 * s + n) f = flI M s (n + 1) h f := by
  funext k j; simp only [flI, st2_at]; repeat' split
  all_goals first | rfl | (exfalso; omega)
theorem flI_o (M : Nat → Nat → Int32) (s n : Nat) (h f : Int32) (k : Nat) (h1 : k ≠ 22) (h2 : k ≠ 23) : flI M s n h f k = M k := by
  funext j; unfold flI; rw [if_neg (fun z => h1 z.1), if_neg (fun z => h2 z.1)]
def flR (M : Nat → Nat → Int32) (s L : Nat) : Nat → Nat → Int32 := flI (jdg M s s s) s L (hdR M s s s 16) (sfR M s s s 16)
/-- keepBest(s) -/
def kbR (M : Nat → Nat → Int32) (s : Nat) : Nat → Nat → Int32 :=
  if hdR M s s s 16 < hdR M (3 + s) s s 16 ∨ hdR M s s s 16 = hdR M (3 + s) s s 16 ∧ sfR M s s s 16 < sfR M (3 + s) s s 16 then st2 (cpR (jdg M s s s) s (3 + s) 16) 25 s (M 25 s + nI 1) else jdg M s s s
