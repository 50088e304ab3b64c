/-! FACTS that agree: the class's tables and the reference's slices -/
def FR (A B : Nat → Nat → Int32) : Prop := (∀ j, j < 16 → A 2 j = B 2 j ∧ A 6 j = B 6 j ∧ A 7 j = B 7 j ∧ (¬ A 2 j = 0 → A 3 j = B 3 j ∧ A 4 j = B 4 j ∧ A 5 j = B 5 j)) ∧ ∀ r, r < 6 → A 8 r = B 8 r
theorem FR.rf (A : Nat → Nat → Int32) : FR A A := ⟨fun _ _ => ⟨rfl, rfl, rfl, fun _ => ⟨rfl, rfl, rfl⟩⟩, fun _ _ => rfl⟩
theorem FR.sy {A B : Nat → Nat → Int32} (h : FR A B) : FR B A := ⟨fun j hj => by
  obtain ⟨a, b, c, d⟩ := h.1 j hj
  exact ⟨a.symm, b.symm, c.symm, fun z => by obtain ⟨x, y, w⟩ := d (by rw [a]; exact z); exact ⟨x.symm, y.symm, w.symm⟩⟩, fun r hr => (h.2 r hr).symm⟩
theorem FR.tr {A B C : Nat → Nat → Int32} (h : FR A B) (g : FR B C) : FR A C := ⟨fun j hj => by
  obtain ⟨a, b, c, d⟩ := h.1 j hj
  obtain ⟨a2, b2, c2, d2⟩ := g.1 j hj
  exact ⟨a.trans a2, b.trans b2, c.trans c2, fun z => by
    obtain ⟨x, y, w⟩ := d z
    obtain ⟨x2, y2, w2⟩ := d2 (by rw [← a]; exact z)
    exact ⟨x.trans x2, y.trans y2, w.trans w2⟩⟩, fun r hr => (h.2 r hr).trans (g.2 r hr)⟩
/-- tables that are the same where facts lie -/
def EF (A B : Nat → Nat → Int32) : Prop := ∀ k j, (2 ≤ k ∧ k ≤ 7 ∧ j < 16 ∨ k = 8 ∧ j < 6) → A k j = B k j
theorem EF.fr {A B : Nat → Nat → Int32} (h : EF A B) : FR A B := ⟨fun j hj => ⟨h 2 j (by omega), h 6 j (by omega), h 7 j (by omega), fun _ => ⟨h 3 j (by omega), h 4 j (by omega), h 5 j (by omega)⟩⟩, fun r hr => h 8 r (by omega)⟩
theorem EF.tr {A B C : Nat → Nat → Int32} (h : EF A B) (g : EF B C) : EF A C := fun k j z => (h k j z).trans (g k j z)
theorem EF.one (A : Nat → Nat → Int32) {k j : Nat} {v : Int32} (hk : k < 2 ∨ 8 < k) : EF (st2 A k j v) A := fun a b z => by rw [st2_at, if_neg (by omega)]
theorem FR.st {A B : Nat → Nat → Int32} (h : FR A B) (k j : Nat) (v : Int32) (hk : k ≠ 2) : FR (st2 A k j v) (st2 B k j v) := by
  refine ⟨fun i hi => ?_, fun r hr => ?_⟩
  · obtain ⟨h2, h6, h7, h3⟩ := h.1 i hi
    simp only [st2_at]
    refine ⟨?_, ?_, ?_, fun hz => ?_⟩
    · split
      · rfl
      · exact h2
    · split
      · rfl
      · exact h6
    · split
      · rfl
      · exact h7
    · rw [if_neg (fun z => hk z.1.symm)] at hz
      obtain ⟨a, b, c⟩ := h3 hz
      refine ⟨?_, ?_, ?_⟩
      · split
        · rfl
        · exact a
      · split
        · rfl
        · exact b
      · split
        · rfl
        · exact c
  · simp only [st2_at]
    split
    · rfl
    · exact h.2 r hr
theorem FR.st0 {A B : Nat → Nat → Int32} (h : FR A B) (j : Nat) : FR (st2 A 2 j (nI 0)) (st2 B 2 j (nI 0)) := by
  refine ⟨fun i hi => ?_, fun r hr => ?_⟩
  · obtain ⟨h2, h6, h7, h3⟩ := h.1 i hi
    by_cases e : i = j
    · subst e
      simp [st2_at, h6, h7, nI_0]
    · simp only [st2_at, e, and_false, if_false]
      exact ⟨h2, h6, h7, h3⟩
  · simp only [st2_at]
    rw [if_neg (by omega), if_neg (by omega)]
    exact h.2 r hr
theorem FR.come {A B : Nat → Nat → Int32} (h : FR A B) (G : Nat → Nat → Int32) (i w : Nat) (v x : Int32) : FR (traitF G i w (st2 (st2 A 2 w v) 1 0 x)) (traitF G i w (st2 (st2 B 2 w v) 1 0 x)) := by
  refine ⟨fun j hj => ?_, fun r hr => ?_⟩
  · obtain ⟨h2, h6, h7, h3⟩ := h.1 j hj
    by_cases e : j = w
    · subst e
      simp [traitF, st2_at, h6, h7]
    · simp [traitF, st2_at, e]
      exact ⟨h2, h6, h7, h3⟩
  · simp [traitF, st2_at]
    exact h.2 r hr
theorem FR.leave {A B : Nat → Nat → Int32} (h : FR A B) (w : Nat) : FR (leaveI A w 16) (leaveI B w 16) := by
  have hb : FR (st2 (st2 (st2 A 2 w (nI 0)) 6 w (-2)) 7 w (nI 0)) (st2 (st2 (st2 B 2 w (nI 0)) 6 w (-2)) 7 w (nI 0)) := ((h.st0 w).st 6 w _ (by decide)).st 7 w _ (by decide)
  refine ⟨fun j hj => ?_, fun r hr => ?_⟩
  · obtain ⟨h2, h6, h7, h3⟩ := hb.1 j hj
    unfold leaveI
    rw [if_neg (by omega), if_neg (by omega), if_neg (by omega), if_neg (by omega), if_pos ⟨rfl, hj⟩, if_pos ⟨rfl, hj⟩, if_neg (by omega), if_neg (by omega), if_neg (by omega), if_neg (by omega), if_neg (by omega), if_neg (by omega)]
    exact ⟨h2, h6, by rw [h7], h3⟩
  · unfold leaveI
    rw [if_neg (by omega), if_neg (by omega)]
    exact hb.2 r hr
theorem FR.part {A B : Nat → Nat → Int32} (h : FR A B) {a b : Nat} (ha : a < 16) (hb : b < 16) : FR (partF A a b) (partF B a b) := by
  unfold partF
  have e1 := (h.1 a ha).2.2.1
  have e2 : st2 A 7 a (A 7 a ||| bitm b) 7 b = st2 B 7 a (B 7 a ||| bitm b) 7 b := by
    rw [st2_at, st2_at, e1, (h.1 b hb).2.2.1]
  rw [e2, e1]
  exact (h.st 7 a _ (by decide)).st 7 b _ (by decide)
theorem FR.unpart {A B : Nat → Nat → Int32} (h : FR A B) {a b : Nat} (ha : a < 16) (hb : b < 16) : FR (unpartF A a b) (unpartF B a b) := by
  unfold unpartF
  have e1 := (h.1 a ha).2.2.1
  have e2 : st2 A 7 a (A 7 a &&& (bitm b ^^^ (-1))) 7 b = st2 B 7 a (B 7 a &&& (bitm b ^^^ (-1))) 7 b := by
    rw [st2_at, st2_at, e1, (h.1 b hb).2.2.1]
  rw [e2, e1]
  exact (h.st 7 a _ (by decide)).st 7 b _ (by decide)
theorem sF0 {G F : Nat → Nat → Int32} {i w : Nat} (h : G 0 i = nI 0) (hw : (G 1 i).toNatClampNeg = w) : stepF G i F = traitF G i w (st2 (st2 F 2 w (nI 1)) 1 0 (nI (w + 1))) := by
  unfold stepF stepJ; rw [hw, if_neg (by rw [h]; decide +kernel), if_pos h]
theorem sF1 {G F : Nat → Nat → Int32} {i w : Nat} (h : G 0 i = nI 1) (hw : (G 1 i).toNatClampNeg = w) : stepF G i F = leaveI F w 16 := by
  unfold stepF stepJ; rw [hw, if_neg (by rw [h]; decide +kernel), if_neg (by rw [h]; decide +kernel), if_pos h]
theorem sF2 {G F : Nat → Nat → Int32} {i w : Nat} (h : G 0 i = nI 2) (hw : (G 1 i).toNatClampNeg = w) : stepF G i F = traitF G i w F := by
  unfold stepF stepJ; rw [hw, if_neg (by rw [h]; decide +kernel), if_neg (by rw [h]; decide +kernel), if_neg (by rw [h]; decide +kernel), if_pos h]
theorem sF3 {G F : Nat → Nat → Int32} {i w : Nat} (h : G 0 i = nI 3) (hw : (G 1 i).toNatClampNeg = w) : stepF G i F = st2 F 8 w (G 2 i) := by
  unfold stepF; rw [hw, if_pos h]
theorem sF4 {G F : Nat → Nat → Int32} {i w : Nat} (h : G 0 i = nI 4) (hw : (G 1 i).toNatClampNeg = w) : stepF G i F = partF F w (G 2 i).toNatClampNeg := by
  unfold stepF stepJ; rw [hw, if_neg (by rw [h]; decide +kernel), if_neg (by rw [h]; decide +kernel), if_neg (by rw [h]; decide +kernel), if_neg (by rw [h]; decide +kernel), if_pos h]
theorem sF5 {G F : Nat → Nat → Int32} {i w : Nat} (h : G 0 i = nI 5) (hw : (G 1 i).toNatClampNeg = w) : stepF G i F = unpartF F w (G 2 i).toNatClampNeg := by
  unfold stepF stepJ; rw [hw, if_neg (by rw [h]; decide +kernel), if_neg (by rw [h]; decide +kernel), if_neg (by rw [h]; decide +kernel), if_neg (by rw [h]; decide +kernel), if_neg (by rw [h]; decide +kernel), if_pos h]
theorem sF6 {G F : Nat → Nat → Int32} {i w : Nat} (h : G 0 i = nI 6) (hw : (G 1 i).toNatClampNeg = w) : stepF G i F = st2 F 6 w (G 2 i) := by
  unfold stepF stepJ; rw [hw, if_neg (by rw [h]; decide +kernel), if_neg (by rw [h]; decide +kernel), if_neg (by rw [h]; decide +kernel), if_neg (by rw [h]; decide +kernel), if_neg (by rw [h]; decide +kernel), if_neg (by rw [h]; decide +kernel), if_pos h]
theorem sF7 {G F : Nat → Nat → Int32} {i w : Nat} (h : G 0 i = nI 7) (hw : (G 1 i).toNatClampNeg = w) : stepF G i F = st2 F 6 w (-2) := by
  unfold stepF stepJ; rw [hw, if_neg (by rw [h]; decide +kernel), if_neg (by rw [h]; decide +kernel), if_neg (by rw [h]; decide +kernel), if_neg (by rw [h]; decide +kernel), if_neg (by rw [h]; decide +kernel), if_neg (by rw [h]; decide +kernel), if_neg (by rw [h]; decide +kernel)]
theorem aR0 {N : Nat → Nat → Int32} {f i w : Nat} (h : N 1 i = nI 0) (hw : (N 2 i).toNatClampNeg = w) : apR N f i = tellR (st2 N 6 (16 * f + w) (nI 1)) (16 * f + w) i := by
  unfold apR; rw [hw, if_pos h]
theorem aR1 {N : Nat → Nat → Int32} {f i w : Nat} (h : N 1 i = nI 1) (hw : (N 2 i).toNatClampNeg = w) : apR N f i = lvR N f w 16 := by
  unfold apR; rw [hw, if_neg (by rw [h]; decide +kernel), if_pos h]
theorem aR2 {N : Nat → Nat → Int32} {f i w : Nat} (h : N 1 i = nI 2) (hw : (N 2 i).toNatClampNeg = w) : apR N f i = tellR N (16 * f + w) i := by
  unfold apR; rw [hw, if_neg (by rw [h]; decide +kernel), if_neg (by rw [h]; decide +kernel), if_pos h]
theorem aR3 {N : Nat → Nat → Int32} {f i w : Nat} (h : N 1 i = nI 3) (hw : (N 2 i).toNatClampNeg = w) : apR N f i = st2 N 12 (6 * f + w) (N 3 i) := by
  unfold apR; rw [hw, if_neg (by rw [h]; decide +kernel), if_neg (by rw [h]; decide +kernel), if_neg (by rw [h]; decide +kernel), if_pos h]
theorem aR4 {N : Nat → Nat → Int32} {f i w : Nat} (h : N 1 i = nI 4) (hw : (N 2 i).toNatClampNeg = w) : apR N f i = prtR N f w (N 3 i).toNatClampNeg := by
  unfold apR; rw [hw, if_neg (by rw [h]; decide +kernel), if_neg (by rw [h]; decide +kernel), if_neg (by rw [h]; decide +kernel), if_neg (by rw [h]; decide +kernel), if_pos h]
theorem aR5 {N : Nat → Nat → Int32} {f i w : Nat} (h : N 1 i = nI 5) (hw : (N 2 i).toNatClampNeg = w) : apR N f i = unpR N f w (N 3 i).toNatClampNeg := by
  unfold apR; rw [hw, if_neg (by rw [h]; decide +kernel), if_neg (by rw [h]; decide +kernel), if_neg (by rw [h]; decide +kernel), if_neg (by rw [h]; decide +kernel), if_neg (by rw [h]; decide +kernel), if_pos h]
theorem aR6 {N : Nat → Nat → Int32} {f i w : Nat} (h : N 1 i = nI 6) (hw : (N 2 i).toNatClampNeg = w) : apR N f i = st2 N 10 (16 * f + w) (N 3 i) := by
  unfold apR; rw [hw, if_neg (by rw [h]; decide +kernel), if_neg (by rw [h]; decide +kernel), if_neg (by rw [h]; decide +kernel), if_neg (by rw [h]; decide +kernel), if_neg (by rw [h]; decide +kernel), if_neg (by rw [h]; decide +kernel), if_pos h]
theorem aR7 {N : Nat → Nat → Int32} {f i w : Nat} (h : N 1 i = nI 7) (hw : (N 2 i).toNatClampNeg = w) : apR N f i = st2 N 10 (16 * f + w) (-2) := by
  unfold apR; rw [hw, if_neg (by rw [h]; decide +kernel), if_neg (by rw [h]; decide +kernel), if_neg (by rw [h]; decide +kernel), if_neg (by rw [h]; decide +kernel), if_neg (by rw [h]; decide +kernel), if_neg (by rw [h]; decide +kernel), if_neg (by rw [h]; decide +kernel)]
/-- a change by its kind -/
theorem wfE_k {G : Nat → Nat → Int32} {i : Nat} (h : wfE G i) : ∃ k w : Nat, k < 8 ∧ w < 16 ∧ G 0 i = nI k ∧ (G 1 i).toNatClampNeg = w ∧ (k = 3 → w < 6 ∧ nI 0 ≤ G 2 i ∧ G 2 i ≤ nI 400) ∧ (k = 4 ∨ k = 5 → (G 2 i).toNatClampNeg < 16) ∧ (k = 0 ∨ k = 2 → trOk (G 2 i) (G 3 i) (G 4 i)) ∧ (k = 6 → nI 0 ≤ G 2 i + 1 ∧ G 2 i + 1 ≤ nI 6) := by
  obtain ⟨k, w, ek, ew, hk, h3, hn, h45, ht, hl⟩ := h
  have hw : w < 16 := by
    by_cases e : k = 3
    · have := (h3 e).1; omega
    · exact hn e
  refine ⟨k, w, hk, hw, ek, by rw [ew]; exact nI_clamp (by omega), h3, fun z => ?_, ht, hl⟩
  obtain ⟨b, hb, eb⟩ := h45 z
  rw [eb, nI_clamp (by omega)]; exact hb
theorem stepF_FR {G A B : Nat → Nat → Int32} {i : Nat} (hw : wfE G i) (h : FR A B) : FR (stepF G i A) (stepF G i B) := by
  obtain ⟨k, w, hk, hw, ek, ew, h3, h45, -, -⟩ := wfE_k hw
  have hc : k = 0 ∨ k = 1 ∨ k = 2 ∨ k = 3 ∨ k = 4 ∨ k = 5 ∨ k = 6 ∨ k = 7 := by omega
  rcases hc with rfl | rfl | rfl | rfl | rfl | rfl | rfl | rfl
  · rw [sF0 ek ew, sF0 ek ew]; exact h.come G i w _ _
  · rw [sF1 ek ew, sF1 ek ew]; exact h.leave w
  · rw [sF2 ek ew, sF2 ek ew]; exact ((h.st 3 w _ (by decide)).st 4 w _ (by decide)).st 5 w _ (by decide)
  · rw [sF3 ek ew, sF3 ek ew]; exact h.st 8 w _ (by decide)
  · rw [sF4 ek ew, sF4 ek ew]; exact h.part hw (h45 (Or.inl rfl))
  · rw [sF5 ek ew, sF5 ek ew]; exact h.unpart hw (h45 (Or.inr rfl))
  · rw [sF6 ek ew, sF6 ek ew]; exact h.st 6 w _ (by decide)
  · rw [sF7 ek ew, sF7 ek ew]; exact h.st 6 w _ (by decide)
theorem stepF_cg {G G2 : Nat → Nat → Int32} {i : Nat} (h : ∀ k, k < 5 → G k i = G2 k i) (F : Nat → Nat → Int32) : stepF G i F = stepF G2 i F := by
  unfold stepF stepJ traitF
  rw [h 0 (by decide), h 1 (by decide), h 2 (by decide), h 3 (by decide), h 4 (by decide)]
theorem wfE_cg {G G2 : Nat → Nat → Int32} {i : Nat} (h : ∀ k, k < 5 → G k i = G2 k i) (hw : wfE G i) : wfE G2 i := by
  unfold wfE at hw ⊢
  rw [← h 0 (by decide), ← h 1 (by decide), ← h 2 (by decide), ← h 3 (by decide), ← h 4 (by decide)]
  exact hw
/-- the facts that the first n changes make -/
def fN (G : Nat → Nat → Int32) : Nat → (Nat → Nat → Int32)
  | 0 => clr (fun _ _ => 0)
  | n + 1 => stepF G n (fN G n)
theorem fN_cg {G G2 : Nat → Nat → Int32} {n : Nat} (h : ∀ i, i < n → ∀ k, k < 5 → G k i = G2 k i) : fN G n = fN G2 n := by
  induction n with
  | zero => rfl
  | succ n ih =>
    show stepF G n (fN G n) = stepF G2 n (fN G2 n)
    rw [ih (fun i hi => h i (by omega)), stepF_cg (h n (by omega))]
theorem clr_EF (A B : Nat → Nat → Int32) : FR (clr A) (clr B) := by
  refine ⟨fun j hj => ?_, fun r hr => ?_⟩
  · simp [clr, hj, nI_0]
  · simp [clr, hr]
theorem itF_FR {G : Nat → Nat → Int32} {a : Nat} (c : Nat) {M : Nat → Nat → Int32} (hwf : ∀ i, i < a + c → wfE G i) (h : FR M (fN G a)) : FR (itF G a c M) (fN G (a + c)) := by
  induction c with
  | zero => exact h
  | succ c ih =>
    show FR (st2 (stepF G (a + c) (itF G a c M)) 0 0 _) (stepF G (a + c) (fN G (a + c)))
    exact ((EF.one _ (by omega)).fr).tr (stepF_FR (hwf _ (by omega)) (ih (fun i hi => hwf i (by omega))))
theorem becF_FR {G : Nat → Nat → Int32} {k n : Nat} {M : Nat → Nat → Int32} (hwf : ∀ i, i < n → wfE G i) (h : FR M (fN G k)) : FR (becF G k n M) (fN G n) := by
  unfold becF
  split
  · have := itF_FR (a := 0) n (M := clr M) (G := G) (fun i hi => hwf i (by omega)) (clr_EF _ _)
    rwa [Nat.zero_add] at this
  · have := itF_FR (a := k) (n - k) (M := M) (G := G) (fun i hi => hwf i (by omega)) h
    rwa [show k + (n - k) = n by omega] at this
/-! the reference's slices -/
theorem slc_st (f : Nat) (N : Nat → Nat → Int32) (k w : Nat) (v : Int32) (hk : k ≤ 7) : slc f (st2 N (k + 4) (16 * f + w) v) = st2 (slc f N) k w v := by
  funext a b
  simp only [slc, st2_at]
  by_cases e : a = 8
  · subst e
    rw [if_pos rfl, if_neg (by omega), if_neg (by omega), if_pos rfl]
  · rw [if_neg e, if_neg e]
    by_cases e2 : a = k ∧ b = w
    · rw [if_pos (by omega), if_pos e2]
    · rw [if_neg (by omega), if_neg e2]
theorem slc_st8 (f : Nat) (N : Nat → Nat → Int32) (w : Nat) (v : Int32) : slc f (st2 N 12 (6 * f + w) v) = st2 (slc f N) 8 w v := by
  funext a b
  simp only [slc, st2_at]
  by_cases e : a = 8
  · subst e
    by_cases e2 : b = w
    · subst e2; simp
    · simp [e2]
  · rw [if_neg e, if_neg (by omega), if_neg (by omega), if_neg e]
theorem slc_o (f : Nat) {N N2 : Nat → Nat → Int32} (h : ∀ k, 6 ≤ k → k ≤ 12 → N2 k = N k) : EF (slc f N2) (slc f N) := fun k j z => by
  unfold slc
  by_cases e : k = 8
  · rw [if_pos e, if_pos e, h 12 (by decide) (by decide)]
  · rw [if_neg e, if_neg e, h (k + 4) (by omega) (by omega)]
theorem apR_slc {N : Nat → Nat → Int32} {f i : Nat} (hw : wfE (logR N) i) : EF (slc f (apR N f i)) (stepF (logR N) i (slc f N)) := by
  obtain ⟨k, w, hk, hw16, ek, ew, h3, h45, -, -⟩ := wfE_k hw
  have ek2 : N 1 i = nI k := ek
  have ew2 : (N 2 i).toNatClampNeg = w := ew
  have hc : k = 0 ∨ k = 1 ∨ k = 2 ∨ k = 3 ∨ k = 4 ∨ k = 5 ∨ k = 6 ∨ k = 7 := by omega
  rcases hc with rfl | rfl | rfl | rfl | rfl | rfl | rfl | rfl
  · rw [sF0 ek ew, aR0 ek2 ew2]
    unfold tellR traitF
    rw [slc_st f _ 5 w _ (by decide), slc_st f _ 4 w _ (by decide), slc_st f _ 3 w _ (by decide), slc_st f _ 2 w _ (by decide)]
    intro a b z
    simp only [st2_at, logR]
    repeat' split
    all_goals first | rfl | (exfalso; omega)
  · rw [sF1 ek ew, aR1 ek2 ew2]
    intro a b z
    have eb : slc f (lvB N f w) = st2 (st2 (st2 (slc f N) 2 w (nI 0)) 6 w (-2)) 7 w (nI 0) := by
      unfold lvB
      rw [slc_st f _ 7 w _ (by decide), slc_st f _ 6 w _ (by decide), slc_st f _ 2 w _ (by decide)]
    unfold leaveI
    rw [← eb]
    by_cases e : a = 7
    · subst e
      rw [if_pos ⟨rfl, by omega⟩]
      show lvR N f w 16 11 (16 * f + b) = lvB N f w 11 (16 * f + b) &&& _
      unfold lvR
      rw [if_pos (by omega)]
    · rw [if_neg (by omega)]
      unfold slc
      by_cases e8 : a = 8
      · rw [if_pos e8, if_pos e8, lvR_o _ _ _ _ _ (by decide)]
      · rw [if_neg e8, if_neg e8, lvR_o _ _ _ _ _ (by omega)]
  · rw [sF2 ek ew, aR2 ek2 ew2]
    unfold tellR traitF
    rw [slc_st f _ 5 w _ (by decide), slc_st f _ 4 w _ (by decide), slc_st f _ 3 w _ (by decide)]
    intro a b z; rfl
  · rw [sF3 ek ew, aR3 ek2 ew2, slc_st8]; intro a b z; rfl
  · rw [sF4 ek ew, aR4 ek2 ew2]
    unfold prtR partF
    rw [slc_st f _ 7 _ _ (by decide), slc_st f _ 7 w _ (by decide)]
    have e1 : st2 N 11 (16 * f + w) (N 11 (16 * f + w) ||| bitm (N 3 i).toNatClampNeg) 11 (16 * f + (N 3 i).toNatClampNeg) = st2 (slc f N) 7 w (slc f N 7 w ||| bitm (logR N 2 i).toNatClampNeg) 7 (logR N 2 i).toNatClampNeg := by
      rw [← slc_st f N 7 w _ (by decide)]; rfl
    rw [e1]
    intro a b z; rfl
  · rw [sF5 ek ew, aR5 ek2 ew2]
    unfold unpR unpartF
    rw [slc_st f _ 7 _ _ (by decide), slc_st f _ 7 w _ (by decide)]
    have e1 : st2 N 11 (16 * f + w) (N 11 (16 * f + w) &&& (bitm (N 3 i).toNatClampNeg ^^^ (-1))) 11 (16 * f + (N 3 i).toNatClampNeg) = st2 (slc f N) 7 w (slc f N 7 w &&& (bitm (logR N 2 i).toNatClampNeg ^^^ (-1))) 7 (logR N 2 i).toNatClampNeg := by
      rw [← slc_st f N 7 w _ (by decide)]; rfl
    rw [e1]
    intro a b z; rfl
  · rw [sF6 ek ew, aR6 ek2 ew2, slc_st f _ 6 w _ (by decide)]; intro a b z; rfl
  · rw [sF7 ek ew, aR7 ek2 ew2, slc_st f _ 6 w _ (by decide)]; intro a b z; rfl
theorem fgS_slc (N B : Nat → Nat → Int32) (f : Nat) : FR (slc f (fgS N f 6)) (clr B) := by
  refine ⟨fun j hj => ?_, fun r hr => ?_⟩
  · have e2 : slc f (fgS N f 6) 2 j = nI 0 := by
      show fgS N f 6 6 (16 * f + j) = _
      unfold fgS fgI; rw [if_neg (by omega), if_pos (by omega)]
    have e7 : slc f (fgS N f 6) 7 j = nI 0 := by
      show fgS N f 6 11 (16 * f + j) = _
      unfold fgS fgI; rw [if_neg (by omega), if_pos (by omega)]
    have e6 : slc f (fgS N f 6) 6 j = (-2) := by
      show fgS N f 6 10 (16 * f + j) = _
      unfold fgS fgI; rw [if_neg (by omega), if_neg (by omega), if_pos (by omega)]
    rw [e2, e6, e7]
    simp [clr, hj, nI_0]
  · show fgS N f 6 12 (6 * f + r) = _
    unfold fgS; rw [if_pos (by omega)]
    simp [clr, hr]
theorem itR_FR {M : Nat → Nat → Int32} (f n : Nat) (hwf : ∀ i, i < n → wfE (logR M) i) (h : FR (slc f M) (fN (logR M) 0)) : FR (slc f (itR f n M)) (fN (logR M) n) := by
  induction n with
  | zero => exact h
  | succ n ih =>
    have ec : ∀ k, k < 5 → logR M k n = logR (itR f n M) k n := fun k hk => (congrFun (itR_o f n M (k + 1) (Or.inl (by omega))) n).symm
    show FR (slc f (apR (itR f n M) f n)) (stepF (logR M) n (fN (logR M) n))
    have h1 := (apR_slc (f := f) (wfE_cg ec (hwf n (by omega)))).fr
    rw [← stepF_cg ec] at h1
    exact h1.tr (stepF_FR (hwf n (by omega)) (ih (fun i hi => hwf i (by omega))))
theorem mkR_FR {N : Nat → Nat → Int32} (f n : Nat) (hwf : ∀ i, i < n → wfE (logR N) i) : FR (slc f (mkR N f n)) (fN (logR N) n) := by
  have ec : ∀ i, ∀ k, k < 5 → logR N k i = logR (fgS N f 6) k i := fun i k hk => (congrFun (fgS_o N f 6 (k + 1) (Or.inl (by omega))) i).symm
  have h1 := itR_FR (M := fgS N f 6) f n (fun i hi => wfE_cg (ec i) (hwf i hi)) (fgS_slc N _ f)
  rw [← fN_cg (fun i _ => ec i)] at h1
  exact h1
