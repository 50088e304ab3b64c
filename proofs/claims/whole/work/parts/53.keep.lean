/-! what the reference's methods leave alone -/
def wrF (f k i : Nat) : Prop := (6 ≤ k ∧ k ≤ 11 ∧ 16 * f ≤ i ∧ i < 16 * f + 16) ∨ (k = 12 ∧ 6 * f ≤ i ∧ i < 6 * f + 6)
def wr (s k i : Nat) : Prop := wrF s k i ∨ (k = 14 ∧ (96 ≤ i ∧ i < 112 ∨ 16 * s ≤ i ∧ i < 16 * s + 16 ∨ 16 * (3 + s) ≤ i ∧ i < 16 * (3 + s) + 16 ∨ 16 * (7 + 4 * s) ≤ i ∧ i < 16 * (11 + 4 * s))) ∨ k = 15 ∨ k = 16 ∨ ((k = 18 ∨ k = 19 ∨ k = 20 ∨ k = 21 ∨ k = 24 ∨ k = 25) ∧ i = s) ∨ ((k = 22 ∨ k = 23) ∧ 8 * s ≤ i ∧ i < 8 * s + 8) ∨ ((k = 26 ∨ k = 27) ∧ 2 * s ≤ i ∧ i < 2 * s + 2) ∨ ((k = 28 ∨ k = 29) ∧ 16 * s ≤ i ∧ i < 16 * s + 16)
theorem apR_keep {N : Nat → Nat → Int32} {f i : Nat} (hw : wfE (logR N) i) (a b : Nat) (hk : ¬ wrF f a b) : apR N f i a b = N a b := by
  obtain ⟨k, w, hk8, hw16, ek, ew, h3, h45, -, -⟩ := wfE_k hw
  have ek2 : N 1 i = nI k := ek
  have ew2 : (N 2 i).toNatClampNeg = w := ew
  have hb : k = 4 ∨ k = 5 → (N 3 i).toNatClampNeg < 16 := h45
  unfold wrF at hk
  have hc : k = 0 ∨ k = 1 ∨ k = 2 ∨ k = 3 ∨ k = 4 ∨ k = 5 ∨ k = 6 ∨ k = 7 := by omega
  rcases hc with rfl | rfl | rfl | rfl | rfl | rfl | rfl | rfl
  · rw [aR0 ek2 ew2]; simp only [tellR, st2_at]
    rw [if_neg (by omega), if_neg (by omega), if_neg (by omega), if_neg (by omega)]
  · rw [aR1 ek2 ew2]; simp only [lvR, lvB, st2_at]
    rw [if_neg (by omega), if_neg (by omega), if_neg (by omega), if_neg (by omega)]
  · rw [aR2 ek2 ew2]; simp only [tellR, st2_at]
    rw [if_neg (by omega), if_neg (by omega), if_neg (by omega)]
  · rw [aR3 ek2 ew2]; simp only [st2_at]
    have := (h3 rfl).1
    rw [if_neg (by omega)]
  · rw [aR4 ek2 ew2]; unfold prtR
    have := hb (Or.inl rfl)
    rw [st2_at, if_neg (by omega), st2_at, if_neg (by omega)]
  · rw [aR5 ek2 ew2]; unfold unpR
    have := hb (Or.inr rfl)
    rw [st2_at, if_neg (by omega), st2_at, if_neg (by omega)]
  · rw [aR6 ek2 ew2]; simp only [st2_at]
    rw [if_neg (by omega)]
  · rw [aR7 ek2 ew2]; simp only [st2_at]
    rw [if_neg (by omega)]
/-- the same outside of solve s -/
def SK (s : Nat) (N N2 : Nat → Nat → Int32) : Prop := ∀ k i, ¬ wr s k i → N2 k i = N k i
theorem SK.rf (s : Nat) (N : Nat → Nat → Int32) : SK s N N := fun _ _ _ => rfl
theorem SK.tr {s : Nat} {A B C : Nat → Nat → Int32} (h : SK s A B) (g : SK s B C) : SK s A C := fun k i z => (g k i z).trans (h k i z)
theorem SK.st {s : Nat} (N : Nat → Nat → Int32) {k j : Nat} {v : Int32} (h : wr s k j) : SK s N (st2 N k j v) := fun a b z => by
  rw [st2_at, if_neg]
  rintro ⟨rfl, rfl⟩; exact z h
theorem SK.jd (s : Nat) (N : Nat → Nat → Int32) (pl f ow : Nat) : SK s N (jdg N pl f ow) := by
  unfold jdg jst
  exact (SK.st N (by unfold wr; omega)).tr (SK.st _ (by unfold wr; omega))
theorem SK.cp {s : Nat} (N : Nat → Nat → Int32) (a : Nat) {b : Nat} (hb : b = 6 ∨ b = s ∨ b = 3 + s ∨ b = 7 + 4 * s ∨ b = 8 + 4 * s ∨ b = 9 + 4 * s ∨ b = 10 + 4 * s) : SK s N (cpR N a b 16) := fun k i z => by
  unfold cpR
  rw [if_neg]
  intro y
  apply z
  unfold wr
  right; left
  refine ⟨y.1, ?_⟩
  omega
theorem SK.kb (s : Nat) (N : Nat → Nat → Int32) : SK s N (kbR N s) := by
  unfold kbR
  split
  · exact ((SK.jd s N s s s).tr (SK.cp _ s (by omega))).tr (SK.st _ (by unfold wr; omega))
  · exact SK.jd s N s s s
theorem SK.fl (s : Nat) (N : Nat → Nat → Int32) {L : Nat} (hL : L ≤ 8) : SK s N (flR N s L) := by
  unfold flR
  refine (SK.jd s N s s s).tr (fun k i z => ?_)
  unfold flI
  rw [if_neg, if_neg]
  · intro y; apply z; unfold wr; omega
  · intro y; apply z; unfold wr; omega
theorem SK.ap {s i : Nat} {N : Nat → Nat → Int32} (hw : wfE (logR N) i) : SK s N (apR N s i) := fun k j z => apR_keep hw k j (fun y => z (Or.inl y))
theorem SK.cu1 {s i : Nat} {N : Nat → Nat → Int32} (hs : s < 3) (hw : wfE (logR N) i) : SK s N (cuI N s i) := by
  obtain ⟨k, w, hk8, hw16, ek, ew, -⟩ := wfE_k hw
  have ew2 : (N 2 i).toNatClampNeg = w := ew
  have h1 : SK s N (st2 (apR N s i) 18 s (nI (i + 1))) := (SK.ap hw).tr (SK.st _ (by unfold wr; omega))
  unfold cuI
  rw [ew2]
  split
  · exact (h1.tr (SK.st _ (by unfold wr; omega))).tr (SK.st _ (by unfold wr; omega))
  · split
    · exact (h1.tr (SK.st _ (by unfold wr; omega))).tr (SK.st _ (by unfold wr; omega))
    · exact h1
theorem logR_cg {N N2 : Nat → Nat → Int32} (h : ∀ k, k < 6 → N2 k = N k) (i : Nat) : ∀ k, k < 5 → logR N k i = logR N2 k i := fun k hk => (congrFun (h (k + 1) (by omega)) i).symm
theorem SK.cuA {s a : Nat} {N : Nat → Nat → Int32} (hs : s < 3) (c : Nat) (hw : ∀ i, i < a + c → wfE (logR N) i) : SK s N (cuR s a c N) := by
  induction c with
  | zero => exact SK.rf s N
  | succ c ih => exact (ih (fun i hi => hw i (by omega))).tr (SK.cu1 hs (wfE_cg (logR_cg (fun k hk => cuR_o s a c N k (Or.inl hk) (by omega) (by omega)) _) (hw (a + c) (by omega))))
theorem SK.cat {s k n L : Nat} {N : Nat → Nat → Int32} (hs : s < 3) (hkn : k ≤ n) (hL : L ≤ 8) (hw : ∀ i, i < n → wfE (logR N) i) : SK s N (catR N s k n L) := by
  unfold catR
  exact ((SK.cuA hs (n - k) (fun i hi => hw i (by omega))).tr (SK.kb s _)).tr (SK.fl s _ hL)
theorem mvr_val (F : Nat → Nat → Int32) (f : Nat → Int32) (n k : Nat) : mvr F f n k = f k ∨ ∃ j : Nat, j < n ∧ mvr F f n k = nI j := by
  induction n with
  | zero => exact Or.inl rfl
  | succ n ih =>
    unfold mvr
    split
    · by_cases e : k = mvc F n
      · exact Or.inr ⟨n, by omega, by simp [upd, e]⟩
      · have e1 : upd (mvr F f n) (mvc F n) (nI n) k = mvr F f n k := by simp [upd, e]
        rw [e1]
        rcases ih with h | ⟨j, hj, ej⟩
        · exact Or.inl h
        · exact Or.inr ⟨j, by omega, ej⟩
    · rcases ih with h | ⟨j, hj, ej⟩
      · exact Or.inl h
      · exact Or.inr ⟨j, by omega, ej⟩
theorem jth_lt (F : Nat → Nat → Int32) (k : Nat) : jth F k < 16 := by
  unfold jth
  rcases mvr_val F (fun _ => 0) 16 k with h | ⟨j, hj, ej⟩
  · rw [h]; decide +kernel
  · rw [ej, nI_clamp (by omega)]; exact hj
theorem SK.trr {s : Nat} (N : Nat → Nat → Int32) : SK s N (trR N s) := by
  unfold trR
  have h1 := jth_lt (slc s N) (unat (N 20 s) 16 % mvc (slc s N) 16)
  have h2 := jth_lt (slc s N) (unat (N 20 s) 20 % mvc (slc s N) 16)
  split
  · exact ((SK.cp N s (by omega)).tr (SK.st _ (by unfold wr; omega))).tr (SK.st _ (by unfold wr; omega))
  · exact (SK.cp N s (by omega)).tr (SK.st _ (by unfold wr; omega))
theorem SK.at {s : Nat} (N : Nat → Nat → Int32) (q : Nat) : SK s N (atR N s q) := by
  unfold atR
  split
  · exact SK.rf s N
  · split
    · exact (SK.trr N).tr (SK.jd s _ 6 s s)
    · exact (((SK.trr N).tr (SK.jd s _ 6 s s)).tr (SK.cp _ 6 (by omega))).tr (SK.st _ (by unfold wr; omega))
theorem SK.lat {s q : Nat} (N : Nat → Nat → Int32) (hq : 8 * s ≤ q ∧ q < 8 * s + 8) : SK s N (latR N s q) := by
  unfold latR
  exact ((SK.jd s N s s s).tr (SK.st _ (by unfold wr; omega))).tr (SK.st _ (by unfold wr; omega))
theorem SK.si {s t L : Nat} (N : Nat → Nat → Int32) (hL0 : 0 < L) (hL : L ≤ 8) : SK s N (siR N s t L) := by
  have hm := Nat.mod_lt t hL0
  unfold siR
  exact ((((SK.st N (by unfold wr; omega)).tr (SK.at _ _)).tr (SK.lat _ (by omega))).tr (SK.kb s _)).tr (SK.st _ (by unfold wr; omega))
theorem SK.ss {s t L : Nat} (N : Nat → Nat → Int32) (hL0 : 0 < L) (hL : L ≤ 8) (n : Nat) : SK s N (ssR s t L n N) := by
  induction n with
  | zero => exact SK.rf s N
  | succ n ih => exact ih.tr (SK.si _ hL0 hL)
theorem itR_keep {f n : Nat} {N : Nat → Nat → Int32} (hw : ∀ i, i < n → wfE (logR N) i) (a b : Nat) (hk : ¬ wrF f a b) : itR f n N a b = N a b := by
  induction n with
  | zero => rfl
  | succ n ih =>
    show apR (itR f n N) f n a b = N a b
    rw [apR_keep (wfE_cg (logR_cg (fun k hk => itR_o f n N k (Or.inl hk)) n) (hw n (by omega))) a b hk, ih (fun i hi => hw i (by omega))]
theorem mkR_keep {f n : Nat} {N : Nat → Nat → Int32} (hw : ∀ i, i < n → wfE (logR N) i) (a b : Nat) (hk : ¬ wrF f a b) : mkR N f n a b = N a b := by
  unfold mkR
  rw [itR_keep (fun i hi => wfE_cg (logR_cg (fun k hk => fgS_o N f 6 k (Or.inl hk)) i) (hw i hi)) a b hk]
  unfold wrF at hk
  unfold fgS fgI
  rw [if_neg (by omega), if_neg (by omega), if_neg (by omega)]
theorem SK.mark {s k : Nat} (N : Nat → Nat → Int32) (hk : k < 2) : SK s N (markR N s (2 * s + k)) := by
  unfold markR
  have h0 : SK s N (cpR (cpR (st2 (st2 N 26 (2 * s + k) (nI 1)) 27 (2 * s + k) (N 18 s)) s (7 + 2 * (2 * s + k)) 16) (3 + s) (8 + 2 * (2 * s + k)) 16) := (((SK.st N (by unfold wr; omega)).tr (SK.st _ (by unfold wr; omega))).tr (SK.cp _ s (by omega))).tr (SK.cp _ (3 + s) (by omega))
  refine h0.tr (fun a b z => ?_)
  unfold mkL
  rw [if_neg, if_neg]
  · intro y; apply z; unfold wr; omega
  · intro y; apply z; unfold wr; omega
theorem SK.back {s m n : Nat} {N : Nat → Nat → Int32} (hw : ∀ i, i < n → wfE (logR N) i) : SK s N (backR N s m n) := by
  unfold backR
  have h0 : SK s N (mkR (st2 N 18 s (nI n)) s n) := (SK.st N (by unfold wr; omega)).tr (fun a b z => mkR_keep (fun i hi => wfE_cg (logR_cg (fun k hk => by funext j; rw [st2_at, if_neg (by omega)]) i) (hw i hi)) a b (fun y => z (Or.inl y)))
  have h1 : SK s N (cpR (cpR (mkR (st2 N 18 s (nI n)) s n) (7 + 2 * m) s 16) (8 + 2 * m) (3 + s) 16) := (h0.tr (SK.cp _ _ (by omega))).tr (SK.cp _ _ (by omega))
  refine h1.tr (fun a b z => ?_)
  unfold bkL
  rw [if_neg, if_neg]
  · intro y; apply z; unfold wr; omega
  · intro y; apply z; unfold wr; omega
/-- the cells that a solve rests on -/
def reg (s k i : Nat) : Prop := wr s k i ∧ k ≠ 15 ∧ k ≠ 16 ∧ ¬ (k = 14 ∧ 96 ≤ i ∧ i < 112)
theorem reg_ap {s v k i : Nat} (hs : s < 3) (hv : v < 3) (hne : s ≠ v) (h : reg v k i) : ¬ wr s k i := by
  obtain ⟨h, h15, h16, h14⟩ := h
  unfold wr wrF at *
  rcases h with h | h | h | h | h | h | h | h <;> omega
/-- what belongs to no solve -/
theorem own_ap {s k i : Nat} (hs : s < 3) (h : k < 6 ∨ k = 13 ∨ k = 17 ∨ wrF 3 k i ∨ wrF 4 k i) : ¬ wr s k i := by
  unfold wr wrF at *
  rcases h with h | h | h | h | h <;> omega
