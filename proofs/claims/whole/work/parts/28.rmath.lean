/-! the reference's marks -/
def mkL (M : Nat → Nat → Int32) (s m n : Nat) : Nat → Nat → Int32 := fun k j => if k = 28 ∧ 8 * m ≤ j ∧ j < 8 * m + n then M 22 (8 * s + (j - 8 * m)) else if k = 29 ∧ 8 * m ≤ j ∧ j < 8 * m + n then M 23 (8 * s + (j - 8 * m)) else M k j
theorem mkL_0 (M : Nat → Nat → Int32) (s m : Nat) : mkL M s m 0 = M := by
  funext k j; unfold mkL; rw [if_neg (by omega), if_neg (by omega)]
theorem mkL_o (M : Nat → Nat → Int32) (s m n k : Nat) (h1 : k ≠ 28) (h2 : k ≠ 29) : mkL M s m n k = M k := by
  funext j; unfold mkL; rw [if_neg (fun z => h1 z.1), if_neg (fun z => h2 z.1)]
theorem mkL_s (M : Nat → Nat → Int32) (s m n : Nat) : st2 (st2 (mkL M s m n) 28 (8 * m + n) (M 22 (8 * s + n))) 29 (8 * m + n) (M 23 (8 * s + n)) = mkL M s m (n + 1) := by
  funext k j; simp only [st2_at]
  by_cases h1 : k = 29 ∧ j = 8 * m + n
  · obtain ⟨rfl, rfl⟩ := h1
    rw [if_pos ⟨rfl, rfl⟩]; unfold mkL; rw [if_neg (by omega), if_pos (by omega), show 8 * m + n - 8 * m = n by omega]
  · rw [if_neg h1]
    by_cases h2 : k = 28 ∧ j = 8 * m + n
    · obtain ⟨rfl, rfl⟩ := h2
      rw [if_pos ⟨rfl, rfl⟩]; unfold mkL; rw [if_pos (by omega), show 8 * m + n - 8 * m = n by omega]
    · rw [if_neg h2]; unfold mkL
      by_cases h3 : k = 28 ∧ 8 * m ≤ j ∧ j < 8 * m + n
      · rw [if_pos h3, if_pos (by omega)]
      · by_cases h4 : k = 29 ∧ 8 * m ≤ j ∧ j < 8 * m + n
        · rw [if_neg h3, if_pos h4, if_neg (by omega), if_pos (by omega)]
        · rw [if_neg h3, if_neg h4, if_neg (by omega), if_neg (by omega)]
def bkL (M : Nat → Nat → Int32) (s m n : Nat) : Nat → Nat → Int32 := fun k j => if k = 22 ∧ 8 * s ≤ j ∧ j < 8 * s + n then M 28 (8 * m + (j - 8 * s)) else if k = 23 ∧ 8 * s ≤ j ∧ j < 8 * s + n then M 29 (8 * m + (j - 8 * s)) else M k j
theorem bkL_0 (M : Nat → Nat → Int32) (s m : Nat) : bkL M s m 0 = M := by
  funext k j; unfold bkL; rw [if_neg (by omega), if_neg (by omega)]
theorem bkL_o (M : Nat → Nat → Int32) (s m n k : Nat) (h1 : k ≠ 22) (h2 : k ≠ 23) : bkL M s m n k = M k := by
  funext j; unfold bkL; rw [if_neg (fun z => h1 z.1), if_neg (fun z => h2 z.1)]
theorem bkL_s (M : Nat → Nat → Int32) (s m n : Nat) : st2 (st2 (bkL M s m n) 22 (8 * s + n) (M 28 (8 * m + n))) 23 (8 * s + n) (M 29 (8 * m + n)) = bkL M s m (n + 1) := by
  funext k j; simp only [st2_at]
  by_cases h1 : k = 23 ∧ j = 8 * s + n
  · obtain ⟨rfl, rfl⟩ := h1
    rw [if_pos ⟨rfl, rfl⟩]; unfold bkL; rw [if_neg (by omega), if_pos (by omega), show 8 * s + n - 8 * s = n by omega]
  · rw [if_neg h1]
    by_cases h2 : k = 22 ∧ j = 8 * s + n
    · obtain ⟨rfl, rfl⟩ := h2
      rw [if_pos ⟨rfl, rfl⟩]; unfold bkL; rw [if_pos (by omega), show 8 * s + n - 8 * s = n by omega]
    · rw [if_neg h2]; unfold bkL
      by_cases h3 : k = 22 ∧ 8 * s ≤ j ∧ j < 8 * s + n
      · rw [if_pos h3, if_pos (by omega)]
      · by_cases h4 : k = 23 ∧ 8 * s ≤ j ∧ j < 8 * s + n
        · rw [if_neg h3, if_pos h4, if_neg (by omega), if_pos (by omega)]
        · rw [if_neg h3, if_neg h4, if_neg (by omega), if_neg (by omega)]
theorem cpR_o (M : Nat → Nat → Int32) (a b n k : Nat) (h : k ≠ 14) : cpR M a b n k = M k := by
  funext j; unfold cpR; rw [if_neg (fun z => h z.1)]
/-- mark(s, k): the m-th mark of all -/
def markR (M : Nat → Nat → Int32) (s m : Nat) : Nat → Nat → Int32 := mkL (cpR (cpR (st2 (st2 M 26 m (nI 1)) 27 m (M 18 s)) s (7 + 2 * m) 16) (3 + s) (8 + 2 * m) 16) s m 8
/-- back(s, k), ahead of catching up -/
def backR (M : Nat → Nat → Int32) (s m n : Nat) : Nat → Nat → Int32 := bkL (cpR (cpR (mkR (st2 M 18 s (nI n)) s n) (7 + 2 * m) s 16) (8 + 2 * m) (3 + s) 16) s m 8
def cuA (M : Nat → Nat → Int32) (s k cnt L : Nat) : Nat → Nat → Int32 := if cnt ≤ k then M else catR M s k cnt L
theorem catR_o (M : Nat → Nat → Int32) (s k n L i : Nat) (h : i < 6 ∨ 12 < i) (h14 : i ≠ 14) (h15 : i ≠ 15) (h16 : i ≠ 16) (h18 : i ≠ 18) (h22 : i ≠ 22) (h23 : i ≠ 23) (h25 : i ≠ 25) : catR M s k n L i = M i := by
  unfold catR flR
  rw [flI_o _ _ _ _ _ _ h22 h23, jdg_o _ _ _ _ _ h15 h16, kbR_o _ _ _ h14 h15 h16 h25, cuR_o _ _ _ _ _ h h14 h18]
theorem cuA_o (M : Nat → Nat → Int32) (s k n L i : Nat) (h : i < 6 ∨ 12 < i) (h14 : i ≠ 14) (h15 : i ≠ 15) (h16 : i ≠ 16) (h18 : i ≠ 18) (h22 : i ≠ 22) (h23 : i ≠ 23) (h25 : i ≠ 25) : cuA M s k n L i = M i := by
  unfold cuA; split
  · rfl
  · exact catR_o _ _ _ _ _ _ h h14 h15 h16 h18 h22 h23 h25
