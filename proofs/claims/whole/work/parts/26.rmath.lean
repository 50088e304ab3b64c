/-! entering changes in the reference -/
theorem logR_en (M : Nat → Nat → Int32) (n : Nat) (a b c d e : Int32) (k : Nat) (hk : k < 5) : logR (enR M n a b c d e) k = addL (logR M) n a b c d e k := by
  funext i
  simp only [logR, enR, addL, st2_at]
  repeat' split
  all_goals first | rfl | (exfalso; omega)
theorem wfE_en {M : Nat → Nat → Int32} {n : Nat} {a b c d e : Int32} (h : wfV a b c d e) : wfE (logR (enR M n a b c d e)) n := by
  have h1 := wfE_new (ML := logR M) (n := n) h
  rw [wfE_V] at h1 ⊢
  rw [logR_en _ _ _ _ _ _ _ _ (by decide), logR_en _ _ _ _ _ _ _ _ (by decide), logR_en _ _ _ _ _ _ _ _ (by decide), logR_en _ _ _ _ _ _ _ _ (by decide), logR_en _ _ _ _ _ _ _ _ (by decide)]
  exact h1
def EnR (n : Nat) (M : Nat → Nat → Int32) (a b c d e x : Int32) (u : Nat → Nat → Int32) : Prop := (n = 120 → x = (-4) ∧ u = M) ∧ (n < 120 → x = nI (n + 1) ∧ u = apR (enR M n a b c d e) 4 n)
theorem st2_self (M : Nat → Nat → Int32) (k j : Nat) : st2 M k j (M k j) = M := by
  funext a b; rw [st2_at]; split
  · rename_i h; rw [h.1, h.2]
  · rfl
