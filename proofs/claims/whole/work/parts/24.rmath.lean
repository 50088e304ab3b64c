/-! the reference's catching up and its steps -/
def cuI (M : Nat → Nat → Int32) (s i : Nat) : Nat → Nat → Int32 :=
  if M 1 i = nI 0 then st2 (st2 (st2 (apR M s i) 18 s (nI (i + 1))) 14 (16 * s + (M 2 i).toNatClampNeg) (-1)) 14 (16 * (3 + s) + (M 2 i).toNatClampNeg) (-1)
  else if M 1 i = nI 6 then st2 (st2 (st2 (apR M s i) 18 s (nI (i + 1))) 14 (16 * s + (M 2 i).toNatClampNeg) (M 3 i)) 14 (16 * (3 + s) + (M 2 i).toNatClampNeg) (M 3 i)
  else st2 (apR M s i) 18 s (nI (i + 1))
theorem cuI_o (M : Nat → Nat → Int32) (s i k : Nat) (h : k < 6 ∨ 12 < k) (h14 : k ≠ 14) (h18 : k ≠ 18) : cuI M s i k = M k := by
  unfold cuI
  repeat' split
  all_goals (simp only [st2, va_up, h14, h18, if_false]; exact apR_o M s i k h)
theorem cuI_18 (M : Nat → Nat → Int32) (s i : Nat) : cuI M s i 18 s = nI (i + 1) := by
  unfold cuI
  repeat' split
  all_goals simp [st2, va_up, upd]
def cuR (s a : Nat) : Nat → (Nat → Nat → Int32) → (Nat → Nat → Int32)
  | 0, M => M
  | c + 1, M => cuI (cuR s a c M) s (a + c)
theorem cuR_o (s a c : Nat) (M : Nat → Nat → Int32) (k : Nat) (h : k < 6 ∨ 12 < k) (h14 : k ≠ 14) (h18 : k ≠ 18) : cuR s a c M k = M k := by
  induction c with
  | zero => rfl
  | succ c ih => show cuI (cuR s a c M) s (a + c) k = M k; rw [cuI_o _ _ _ _ h h14 h18, ih]
theorem cuR_18 (s a c : Nat) (M : Nat → Nat → Int32) (h : M 18 s = nI a) : cuR s a c M 18 s = nI (a + c) := by
  cases c with
  | zero => exact h
  | succ c => exact cuI_18 _ _ _
theorem kbR_o (M : Nat → Nat → Int32) (s k : Nat) (h14 : k ≠ 14) (h15 : k ≠ 15) (h16 : k ≠ 16) (h25 : k ≠ 25) : kbR M s k = M k := by
  unfold kbR
  split
  · simp only [st2, va_up, h25, if_false]
    funext j; unfold cpR; rw [if_neg (fun z => h14 z.1), jdg_o _ _ _ _ _ h15 h16]
  · exact jdg_o _ _ _ _ _ h15 h16
/-- catching up to n, where k are taken and k is less than n -/
def catR (M : Nat → Nat → Int32) (s k n L : Nat) : Nat → Nat → Int32 := flR (kbR (cuR s k (n - k) M) s) s L
theorem mvc_cg {F G : Nat → Nat → Int32} (h2 : G 2 = F 2) (h6 : G 6 = F 6) (n : Nat) : mvc G n = mvc F n := by
  induction n with
  | zero => rfl
  | succ n ih => unfold mvc; rw [h2, h6, ih]
/-- the k-th of the jobs that may be moved -/
def jth (F : Nat → Nat → Int32) (k : Nat) : Nat := (mvr F (fun _ => 0) 16 k).toNatClampNeg
theorem mvr_at (F : Nat → Nat → Int32) (f : Nat → Int32) (j : Nat) (hf : ¬ F 2 j = 0 ∧ F 6 j = (-2)) : ∀ n, j < n → mvr F f n (mvc F j) = nI j := by
  intro n
  induction n with
  | zero => intro h; exact absurd h (Nat.not_lt_zero _)
  | succ n ih =>
    intro h
    have mono : ∀ a d, mvc F a ≤ mvc F (a + d) := by
      intro a d
      induction d with
      | zero => exact Nat.le_refl _
      | succ d ihd => exact Nat.le_trans ihd (mvc_s F (a + d))
    unfold mvr
    by_cases e : j = n
    · subst e
      rw [if_pos hf]
      simp [upd]
    · have hlt : j < n := by omega
      split
      · have h1 : mvc F (j + 1) = mvc F j + 1 := by show (if _ then _ else _) = _; rw [if_pos hf]
        have h2 := mono (j + 1) (n - (j + 1))
        rw [show j + 1 + (n - (j + 1)) = n by omega] at h2
        unfold upd
        rw [if_neg (by omega)]
        exact ih hlt
      · exact ih hlt
theorem jth_eq {F : Nat → Nat → Int32} {j k : Nat} (hj : j < 16) (hf : ¬ F 2 j = 0 ∧ F 6 j = (-2)) (hk : mvc F j = k) : jth F k = j := by
  unfold jth; rw [← hk, mvr_at F _ j hf 16 hj]; exact nI_clamp (by omega)
/-- the table with the tried plan (6) -/
def trR (M : Nat → Nat → Int32) (s : Nat) : Nat → Nat → Int32 :=
  if unat (M 20 s) 8 % 4 = 3 then st2 (st2 (cpR M s 6 16) 14 (96 + jth (slc s M) (unat (M 20 s) 16 % mvc (slc s M) 16)) (M 14 (16 * s + jth (slc s M) (unat (M 20 s) 20 % mvc (slc s M) 16)))) 14 (96 + jth (slc s M) (unat (M 20 s) 20 % mvc (slc s M) 16)) (M 14 (16 * s + jth (slc s M) (unat (M 20 s) 16 % mvc (slc s M) 16)))
  else st2 (cpR M s 6 16) 14 (96 + jth (slc s M) (unat (M 20 s) 16 % mvc (slc s M) 16)) (if unat (M 20 s) 24 % 7 = 6 then (-1) else nI (unat (M 20 s) 24 % 7))
def betterI (h s h2 s2 : Int32) : Prop := h < h2 ∨ h = h2 ∧ s < s2
def atR (M : Nat → Nat → Int32) (s at_ : Nat) : Nat → Nat → Int32 :=
  if mvc (slc s M) 16 = 0 then M
  else if (hdR (trR M s) s s s 16 < hdR (trR M s) 6 s s 16 ∨ hdR (trR M s) s s s 16 = hdR (trR M s) 6 s s 16 ∧ sfR (trR M s) s s s 16 < sfR (trR M s) 6 s s 16) ∧ (M 22 at_ < hdR (trR M s) 6 s s 16 ∨ M 22 at_ = hdR (trR M s) 6 s s 16 ∧ M 23 at_ < sfR (trR M s) 6 s s 16) then jdg (trR M s) 6 s s
  else st2 (cpR (jdg (trR M s) 6 s s) 6 s 16) 24 s (M 24 s + nI 1)
theorem trR_o (M : Nat → Nat → Int32) (s k : Nat) (h14 : k ≠ 14) : trR M s k = M k := by
  unfold trR
  split
  all_goals
    simp only [st2, va_up, h14, if_false]
    funext j; unfold cpR; rw [if_neg (fun z => h14 z.1)]
theorem atR_o (M : Nat → Nat → Int32) (s at_ k : Nat) (h14 : k ≠ 14) (h15 : k ≠ 15) (h16 : k ≠ 16) (h24 : k ≠ 24) : atR M s at_ k = M k := by
  unfold atR
  repeat' split
  · rfl
  · rw [jdg_o _ _ _ _ _ h15 h16, trR_o _ _ _ h14]
  · simp only [st2, va_up, h24, if_false]
    funext j; unfold cpR; rw [if_neg (fun z => h14 z.1), jdg_o _ _ _ _ _ h15 h16, trR_o _ _ _ h14]
def latR (B : Nat → Nat → Int32) (s at_ : Nat) : Nat → Nat → Int32 := st2 (st2 (jdg B s s s) 22 at_ (hdR B s s s 16)) 23 at_ (sfR B s s s 16)
/-- one step, the t-th -/
def siR (M : Nat → Nat → Int32) (s t L : Nat) : Nat → Nat → Int32 := st2 (kbR (latR (atR (st2 M 20 s (M 20 s * nI 1103515245 + nI 12345)) s (8 * s + t % L)) s (8 * s + t % L)) s) 19 s (nI (t + 1))
def ssR (s t L : Nat) : Nat → (Nat → Nat → Int32) → (Nat → Nat → Int32)
  | 0, M => M
  | n + 1, M => siR (ssR s t L n M) s (t + n) L
theorem siR_19 (M : Nat → Nat → Int32) (s t L : Nat) : siR M s t L 19 s = nI (t + 1) := by simp [siR, st2, va_up, upd]
theorem siR_o (M : Nat → Nat → Int32) (s t L k : Nat) (h14 : k ≠ 14) (h15 : k ≠ 15) (h16 : k ≠ 16) (h19 : k ≠ 19) (h20 : k ≠ 20) (h22 : k ≠ 22) (h23 : k ≠ 23) (h24 : k ≠ 24) (h25 : k ≠ 25) : siR M s t L k = M k := by
  unfold siR
  simp only [st2, va_up, h19, if_false]
  rw [kbR_o _ _ _ h14 h15 h16 h25]
  unfold latR
  simp only [st2, va_up, h22, h23, if_false]
  rw [jdg_o _ _ _ _ _ h15 h16, atR_o _ _ _ _ h14 h15 h16 h24]
  simp [va_up, h20]
theorem ssR_o (s t L n : Nat) (M : Nat → Nat → Int32) (k : Nat) (h14 : k ≠ 14) (h15 : k ≠ 15) (h16 : k ≠ 16) (h19 : k ≠ 19) (h20 : k ≠ 20) (h22 : k ≠ 22) (h23 : k ≠ 23) (h24 : k ≠ 24) (h25 : k ≠ 25) : ssR s t L n M k = M k := by
  induction n with
  | zero => rfl
  | succ n ih => show siR (ssR s t L n M) s (t + n) L k = M k; rw [siR_o _ _ _ _ _ h14 h15 h16 h19 h20 h22 h23 h24 h25, ih]
theorem ssR_19 (s t L n : Nat) (M : Nat → Nat → Int32) (h : M 19 s = nI t) : ssR s t L n M 19 s = nI (t + n) := by
  cases n with
  | zero => exact h
  | succ n => exact siR_19 _ _ _ _
