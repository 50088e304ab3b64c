/-! THE STATE: an object is a table of numbers M (field, place); its cells by the addresses ad (field; 100: itself) -/
def st2 (M : Nat → Nat → Int32) (k j : Nat) (v : Int32) : Nat → Nat → Int32 := va_up M k (upd (M k) j v)
def st3 (M : Nat → Nat → Int64) (k j : Nat) (v : Int64) : Nat → Nat → Int64 := va_up M k (vp_updL (M k) j v)
theorem st2_at (M : Nat → Nat → Int32) (k j : Nat) (v : Int32) (a b : Nat) : st2 M k j v a b = if a = k ∧ b = j then v else M a b := by
  unfold st2 va_up upd
  by_cases h : a = k
  · subst h; by_cases h2 : b = j <;> simp [h2]
  · simp [h]
theorem st3_at (M : Nat → Nat → Int64) (k j : Nat) (v : Int64) (a b : Nat) : st3 M k j v a b = if a = k ∧ b = j then v else M a b := by
  unfold st3 va_up vp_updL
  by_cases h : a = k
  · subst h; by_cases h2 : b = j <;> simp [h2]
  · simp [h]
def bz (P : Prop) [Decidable P] : Int32 := if P then 1 else 0
theorem bz_t {P : Prop} [Decidable P] (h : P) : bz P = 1 := if_pos h
theorem bz_f {P : Prop} [Decidable P] (h : ¬ P) : bz P = 0 := if_neg h
theorem bz_0 {P : Prop} [Decidable P] : bz P = 0 ↔ ¬ P := by
  unfold bz; by_cases h : P
  · simp [h]
  · simp [h]
theorem bz_n0 {P : Prop} [Decidable P] : ¬ bz P = 0 ↔ P := by rw [bz_0, Classical.not_not]
theorem bz_nar {P : Prop} [Decidable P] : narrow .boolean (.int (bz P)) = .int (bz P) := by
  by_cases h : P
  · rw [bz_t h]; decide +kernel
  · rw [bz_f h]; decide +kernel
def wF (cA : Nat → ClassId) (ad : Nat → Nat) (M : Nat → Nat → Int32) : va_W := [(ad 100, .inr (0, [.int (M 0 0), .int (M 1 0), .ref (ad 2), .ref (ad 3), .ref (ad 4), .ref (ad 5), .ref (ad 6), .ref (ad 7), .ref (ad 8), .ref (ad 9), .ref (ad 10)])), (ad 2, .inl (cA 2, 16, .inl (M 2))), (ad 3, .inl (cA 0, 16, .inl (M 3))), (ad 4, .inl (cA 0, 16, .inl (M 4))), (ad 5, .inl (cA 0, 16, .inl (M 5))), (ad 6, .inl (cA 0, 16, .inl (M 6))), (ad 7, .inl (cA 0, 16, .inl (M 7))), (ad 8, .inl (cA 0, 6, .inl (M 8))), (ad 9, .inl (cA 0, 6, .inl (M 9))), (ad 10, .inl (cA 0, 6, .inl (M 10)))]
def wL (cA : Nat → ClassId) (ad : Nat → Nat) (M : Nat → Nat → Int32) : va_W := [(ad 100, .inr (1, [.ref (ad 0), .ref (ad 1), .ref (ad 2), .ref (ad 3), .ref (ad 4), .int (M 5 0)])), (ad 0, .inl (cA 0, 120, .inl (M 0))), (ad 1, .inl (cA 0, 120, .inl (M 1))), (ad 2, .inl (cA 0, 120, .inl (M 2))), (ad 3, .inl (cA 0, 120, .inl (M 3))), (ad 4, .inl (cA 0, 120, .inl (M 4)))]
def wM (cA : Nat → ClassId) (ad : Nat → Nat) (L : Nat) (M : Nat → Nat → Int32) (J : Nat → Nat → Int64) : va_W := [(ad 100, .inr (2, [.int (M 0 0), .ref (ad 1), .ref (ad 2), .ref (ad 3)])), (ad 1, .inl (cA 0, 16, .inl (M 1))), (ad 2, .inl (cA 0, 16, .inl (M 2))), (ad 3, .inl (cA 1, L, .inr (.inl (J 3))))]
def wS (cA : Nat → ClassId) (ad : Nat → Nat) (fo L : Nat) (M : Nat → Nat → Int32) (J : Nat → Nat → Int64) (mk : Nat → Option Nat) : va_W := [(ad 100, .inr (3, [.ref fo, .ref (ad 1), .ref (ad 2), .ref (ad 3), .ref (ad 4), .ref (ad 5), .long (J 6 0), .long (J 7 0), .int (M 8 0), .int (M 9 0), .int (M 10 0), .int (M 11 0)])), (ad 1, .inl (cA 0, 16, .inl (M 1))), (ad 2, .inl (cA 0, 16, .inl (M 2))), (ad 3, .inl (cA 1, L, .inr (.inl (J 3)))), (ad 4, .inl (cA 3, 2, .inr (.inr (.inr (.inr mk))))), (ad 5, .inl (cA 0, 16, .inl (M 5)))]
def wX (cA : Nat → ClassId) (ad : Nat → Nat) (lo la ot : Nat) (M : Nat → Nat → Int32) (sv : Nat → Option Nat) : va_W := [(ad 100, .inr (4, [.ref lo, .ref la, .ref ot, .ref (ad 3), .int (M 4 0)])), (ad 3, .inl (cA 4, 3, .inr (.inr (.inr (.inr sv)))))]
def wR (cA : Nat → ClassId) (ad : Nat → Nat) (M : Nat → Nat → Int32) : va_W := [(ad 100, .inr (5, [.int (M 0 0), .ref (ad 1), .ref (ad 2), .ref (ad 3), .ref (ad 4), .ref (ad 5), .ref (ad 6), .ref (ad 7), .ref (ad 8), .ref (ad 9), .ref (ad 10), .ref (ad 11), .ref (ad 12), .int (M 13 0), .ref (ad 14), .int (M 15 0), .int (M 16 0), .int (M 17 0), .ref (ad 18), .ref (ad 19), .ref (ad 20), .ref (ad 21), .ref (ad 22), .ref (ad 23), .ref (ad 24), .ref (ad 25), .ref (ad 26), .ref (ad 27), .ref (ad 28), .ref (ad 29)])), (ad 1, .inl (cA 0, 120, .inl (M 1))), (ad 2, .inl (cA 0, 120, .inl (M 2))), (ad 3, .inl (cA 0, 120, .inl (M 3))), (ad 4, .inl (cA 0, 120, .inl (M 4))), (ad 5, .inl (cA 0, 120, .inl (M 5))), (ad 6, .inl (cA 2, 80, .inl (M 6))), (ad 7, .inl (cA 0, 80, .inl (M 7))), (ad 8, .inl (cA 0, 80, .inl (M 8))), (ad 9, .inl (cA 0, 80, .inl (M 9))), (ad 10, .inl (cA 0, 80, .inl (M 10))), (ad 11, .inl (cA 0, 80, .inl (M 11))), (ad 12, .inl (cA 0, 30, .inl (M 12))), (ad 14, .inl (cA 0, 320, .inl (M 14))), (ad 18, .inl (cA 0, 3, .inl (M 18))), (ad 19, .inl (cA 0, 3, .inl (M 19))), (ad 20, .inl (cA 0, 3, .inl (M 20))), (ad 21, .inl (cA 0, 3, .inl (M 21))), (ad 22, .inl (cA 0, 24, .inl (M 22))), (ad 23, .inl (cA 0, 24, .inl (M 23))), (ad 24, .inl (cA 0, 3, .inl (M 24))), (ad 25, .inl (cA 0, 3, .inl (M 25))), (ad 26, .inl (cA 2, 6, .inl (M 26))), (ad 27, .inl (cA 0, 6, .inl (M 27))), (ad 28, .inl (cA 0, 48, .inl (M 28))), (ad 29, .inl (cA 0, 48, .inl (M 29)))]
