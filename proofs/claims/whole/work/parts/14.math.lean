/-! changes: what may be entered -/
abbrev isJ (F : Nat → Nat → Int32) (x : Int32) : Prop := (nI 0 ≤ x ∧ x ≤ nI 15) ∧ ¬ F 2 x.toNatClampNeg = 0
theorem isJ_nat {F : Nat → Nat → Int32} {x : Int32} (h : isJ F x) : ∃ j : Nat, j < 16 ∧ x = nI j ∧ ¬ F 2 j = 0 := by
  obtain ⟨j, hj, rfl⟩ := wn (n := 15) (by decide) h.1
  refine ⟨j, by omega, rfl, ?_⟩
  have := h.2
  rwa [nI_clamp (by omega)] at this
def wfV (a b c d e : Int32) : Prop := ∃ k w : Nat, a = nI k ∧ b = nI w ∧ k < 8 ∧ (k = 3 → w < 6 ∧ nI 0 ≤ c ∧ c ≤ nI 400) ∧ (k ≠ 3 → w < 16) ∧ (k = 4 ∨ k = 5 → ∃ b : Nat, b < 16 ∧ c = nI b) ∧ (k = 0 ∨ k = 2 → trOk c d e) ∧ (k = 6 → nI 0 ≤ c + 1 ∧ c + 1 ≤ nI 6)
theorem wfE_V (G : Nat → Nat → Int32) (i : Nat) : wfE G i ↔ wfV (G 0 i) (G 1 i) (G 2 i) (G 3 i) (G 4 i) := Iff.rfl
theorem wf_come {w : Nat} {a b c : Int32} (hw : w < 16) (h : trOk a b c) : wfV (nI 0) (nI w) a b c := ⟨0, w, rfl, rfl, by decide, fun z => absurd z (by decide), fun _ => hw, fun z => absurd z (by decide), fun _ => h, fun z => absurd z (by decide)⟩
theorem wf_go {w : Nat} {a b c : Int32} (hw : w < 16) : wfV (nI 1) (nI w) a b c := ⟨1, w, rfl, rfl, by decide, fun z => absurd z (by decide), fun _ => hw, fun z => absurd z (by decide), fun z => absurd z (by decide), fun z => absurd z (by decide)⟩
theorem wf_turn {w : Nat} {a b c : Int32} (hw : w < 16) (h : trOk a b c) : wfV (nI 2) (nI w) a b c := ⟨2, w, rfl, rfl, by decide, fun z => absurd z (by decide), fun _ => hw, fun z => absurd z (by decide), fun _ => h, fun z => absurd z (by decide)⟩
theorem wf_size {w : Nat} {a b c : Int32} (hw : w < 6) (h : nI 0 ≤ a ∧ a ≤ nI 400) : wfV (nI 3) (nI w) a b c := ⟨3, w, rfl, rfl, by decide, fun _ => ⟨hw, h⟩, fun z => absurd rfl z, fun z => absurd z (by decide), fun z => absurd z (by decide), fun z => absurd z (by decide)⟩
theorem wf_apart {w v : Nat} {b c : Int32} (hw : w < 16) (hv : v < 16) : wfV (nI 4) (nI w) (nI v) b c := ⟨4, w, rfl, rfl, by decide, fun z => absurd z (by decide), fun _ => hw, fun _ => ⟨v, hv, rfl⟩, fun z => absurd z (by decide), fun z => absurd z (by decide)⟩
theorem wf_near {w v : Nat} {b c : Int32} (hw : w < 16) (hv : v < 16) : wfV (nI 5) (nI w) (nI v) b c := ⟨5, w, rfl, rfl, by decide, fun z => absurd z (by decide), fun _ => hw, fun _ => ⟨v, hv, rfl⟩, fun z => absurd z (by decide), fun z => absurd z (by decide)⟩
theorem wf_lock {w : Nat} {a b c : Int32} (hw : w < 16) (h : nI 0 ≤ a + 1 ∧ a + 1 ≤ nI 6) : wfV (nI 6) (nI w) a b c := ⟨6, w, rfl, rfl, by decide, fun z => absurd z (by decide), fun _ => hw, fun z => absurd z (by decide), fun z => absurd z (by decide), fun _ => h⟩
theorem wf_free {w : Nat} {a b c : Int32} (hw : w < 16) : wfV (nI 7) (nI w) a b c := ⟨7, w, rfl, rfl, by decide, fun z => absurd z (by decide), fun _ => hw, fun z => absurd z (by decide), fun z => absurd z (by decide), fun z => absurd z (by decide)⟩
theorem addL_n (ML : Nat → Nat → Int32) (n : Nat) (a b c d e : Int32) : addL ML n a b c d e 0 n = a ∧ addL ML n a b c d e 1 n = b ∧ addL ML n a b c d e 2 n = c ∧ addL ML n a b c d e 3 n = d ∧ addL ML n a b c d e 4 n = e := by
  simp [addL, st2, va_up, upd]
theorem addL_i (ML : Nat → Nat → Int32) (n : Nat) (a b c d e : Int32) (k i : Nat) (hk : k < 5) (hi : i ≠ n) : addL ML n a b c d e k i = ML k i := by
  simp only [addL, st2_at]
  rw [if_neg (by omega), if_neg (by omega), if_neg (by omega), if_neg (by omega), if_neg (by omega), if_neg (by omega)]
theorem wfE_new {ML : Nat → Nat → Int32} {n : Nat} {a b c d e : Int32} (h : wfV a b c d e) : wfE (addL ML n a b c d e) n := by
  obtain ⟨h0, h1, h2, h3, h4⟩ := addL_n ML n a b c d e
  rw [wfE_V, h0, h1, h2, h3, h4]; exact h
theorem wfE_old {ML : Nat → Nat → Int32} {n : Nat} {a b c d e : Int32} {i : Nat} (hi : i ≠ n) (h : wfE ML i) : wfE (addL ML n a b c d e) i := by
  rw [wfE_V, addL_i _ _ _ _ _ _ _ _ _ (by decide) hi, addL_i _ _ _ _ _ _ _ _ _ (by decide) hi, addL_i _ _ _ _ _ _ _ _ _ (by decide) hi, addL_i _ _ _ _ _ _ _ _ _ (by decide) hi, addL_i _ _ _ _ _ _ _ _ _ (by decide) hi]; exact h
theorem wfE_all {ML : Nat → Nat → Int32} {n : Nat} {a b c d e : Int32} (h : wfV a b c d e) (ho : ∀ i, i < n → wfE ML i) : ∀ i, i < n + 1 → wfE (addL ML n a b c d e) i := fun i hi => by
  by_cases e0 : i = n
  · rw [e0]; exact wfE_new h
  · exact wfE_old e0 (ho i (by omega))
/-- what entering a change answers and makes: the class's log and latest facts -/
def EnQ (n : Nat) (ML M : Nat → Nat → Int32) (a b c d e x : Int32) (u : (Nat → Nat → Int32) × (Nat → Nat → Int32)) : Prop :=
  (n = 120 → x = (-4) ∧ u = (ML, M)) ∧ (n < 120 → x = nI (n + 1) ∧ u = (addL ML n a b c d e, st2 (stepF (addL ML n a b c d e) n M) 0 0 (nI (n + 1))))
theorem becF_1 (G : Nat → Nat → Int32) (n : Nat) (M : Nat → Nat → Int32) : becF G n (n + 1) M = st2 (stepF G n M) 0 0 (nI (n + 1)) := by
  unfold becF; rw [if_neg (by omega), show n + 1 - n = 1 by omega]; rfl
