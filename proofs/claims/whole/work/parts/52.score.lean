/-! bounds of facts; scores alike -/
def FB (A : Nat → Nat → Int32) : Prop := (∀ j, j < 16 → (∃ m, m < 2 ^ 16 ∧ A 7 j = nI m) ∧ (¬ A 2 j = 0 → trOk (A 3 j) (A 4 j) (A 5 j))) ∧ ∀ r, r < 6 → nI 0 ≤ A 8 r ∧ A 8 r ≤ nI 400
theorem FB.of {A B : Nat → Nat → Int32} (h : FB B) (g : FR A B) : FB A := by
  refine ⟨fun j hj => ?_, fun r hr => ?_⟩
  · obtain ⟨e2, e6, e7, e3⟩ := g.1 j hj
    obtain ⟨hm, ht⟩ := h.1 j hj
    rw [e7]
    refine ⟨hm, fun z => ?_⟩
    obtain ⟨a, b, c⟩ := e3 z
    rw [a, b, c]
    exact ht (by rw [← e2]; exact z)
  · rw [g.2 r hr]; exact h.2 r hr
theorem FB.st {A : Nat → Nat → Int32} (h : FB A) (k j : Nat) (v : Int32) (hk : k = 6 ∨ k < 2) : FB (st2 A k j v) := by
  refine ⟨fun i hi => ?_, fun r hr => ?_⟩
  · simp only [st2_at]
    rw [if_neg (by omega), if_neg (by omega), if_neg (by omega), if_neg (by omega), if_neg (by omega)]
    exact h.1 i hi
  · simp only [st2_at]
    rw [if_neg (by omega)]
    exact h.2 r hr
theorem FB.st7 {A : Nat → Nat → Int32} (h : FB A) (j : Nat) {v : Int32} (hv : ∃ m, m < 2 ^ 16 ∧ v = nI m) : FB (st2 A 7 j v) := by
  refine ⟨fun i hi => ?_, fun r hr => ?_⟩
  · simp only [st2_at]
    rw [if_neg (c := 2 = 7 ∧ _) (by omega), if_neg (c := 3 = 7 ∧ _) (by omega), if_neg (c := 4 = 7 ∧ _) (by omega), if_neg (c := 5 = 7 ∧ _) (by omega)]
    refine ⟨?_, (h.1 i hi).2⟩
    split
    · exact hv
    · exact (h.1 i hi).1
  · simp only [st2_at]
    rw [if_neg (by omega)]
    exact h.2 r hr
theorem FB.st8 {A : Nat → Nat → Int32} (h : FB A) (j : Nat) {v : Int32} (hv : nI 0 ≤ v ∧ v ≤ nI 400) : FB (st2 A 8 j v) := by
  refine ⟨fun i hi => ?_, fun r hr => ?_⟩
  · simp only [st2_at]
    rw [if_neg (by omega), if_neg (by omega), if_neg (by omega), if_neg (by omega), if_neg (by omega)]
    exact h.1 i hi
  · simp only [st2_at]
    split
    · exact hv
    · exact h.2 r hr
theorem FB.st20 {A : Nat → Nat → Int32} (h : FB A) (j : Nat) : FB (st2 A 2 j (nI 0)) := by
  refine ⟨fun i hi => ?_, fun r hr => ?_⟩
  · simp only [st2_at]
    rw [if_neg (c := 7 = 2 ∧ _) (by omega), if_neg (c := 3 = 2 ∧ _) (by omega), if_neg (c := 4 = 2 ∧ _) (by omega), if_neg (c := 5 = 2 ∧ _) (by omega)]
    refine ⟨(h.1 i hi).1, fun z => ?_⟩
    by_cases e : i = j
    · exact absurd (by rw [if_pos ⟨trivial, e⟩]; exact nI_0) z
    · rw [if_neg (by omega)] at z; exact (h.1 i hi).2 z
  · simp only [st2_at]
    rw [if_neg (by omega)]
    exact h.2 r hr
theorem FB.tr {A G : Nat → Nat → Int32} (h : FB A) (i w : Nat) (v : Int32) (hv : trOk (G 2 i) (G 3 i) (G 4 i)) : FB (traitF G i w (st2 A 2 w v)) := by
  refine ⟨fun j hj => ?_, fun r hr => ?_⟩
  · by_cases e : j = w
    · subst e
      simp [traitF, st2_at]
      exact ⟨(h.1 j hj).1, fun _ => hv⟩
    · simp [traitF, st2_at, e]
      exact h.1 j hj
  · simp [traitF, st2_at]
    exact h.2 r hr
theorem FB.or {A : Nat → Nat → Int32} (h : FB A) {j b : Nat} (hj : j < 16) (hb : b < 16) : ∃ m, m < 2 ^ 16 ∧ A 7 j ||| bitm b = nI m := by
  obtain ⟨m, hm, em⟩ := (h.1 j hj).1
  have h2 : 2 ^ b < 2 ^ 16 := Nat.pow_lt_pow_right (by decide) hb
  exact ⟨m ||| 2 ^ b, Nat.or_lt_two_pow hm h2, by rw [em, bitm_nI b hb, nI_or hm h2]⟩
theorem FB.an {A : Nat → Nat → Int32} (h : FB A) {j : Nat} (hj : j < 16) (y : Int32) : ∃ m, m < 2 ^ 16 ∧ A 7 j &&& y = nI m := by
  obtain ⟨m, hm, em⟩ := (h.1 j hj).1
  obtain ⟨q, hq, eq⟩ := nI_andL hm y
  exact ⟨q, hq, by rw [em, eq]⟩
theorem stepF_FB {G A : Nat → Nat → Int32} {i : Nat} (hw : wfE G i) (h : FB A) : FB (stepF G i A) := by
  obtain ⟨k, w, hk, hw, ek, ew, h3, h45, ht, -⟩ := wfE_k hw
  have hc : k = 0 ∨ k = 1 ∨ k = 2 ∨ k = 3 ∨ k = 4 ∨ k = 5 ∨ k = 6 ∨ k = 7 := by omega
  rcases hc with rfl | rfl | rfl | rfl | rfl | rfl | rfl | rfl
  · rw [sF0 ek ew]
    refine (h.tr (G := G) i w (nI 1) (ht (Or.inl rfl))).of ?_
    refine EF.fr (fun a b z => ?_)
    simp only [traitF, st2_at]
    rw [if_neg (c := a = 1 ∧ b = 0) (by omega)]
  · rw [sF1 ek ew]
    have hb : FB (st2 (st2 (st2 A 2 w (nI 0)) 6 w (-2)) 7 w (nI 0)) := ((h.st20 w).st 6 w _ (Or.inl rfl)).st7 w ⟨0, by decide, rfl⟩
    refine ⟨fun j hj => ?_, fun r hr => ?_⟩
    · unfold leaveI
      rw [if_pos ⟨rfl, hj⟩, if_neg (by omega), if_neg (by omega), if_neg (by omega), if_neg (by omega)]
      exact ⟨hb.an hj _, (hb.1 j hj).2⟩
    · unfold leaveI
      rw [if_neg (by omega)]
      exact hb.2 r hr
  · rw [sF2 ek ew]
    have := h.tr (G := G) i w (A 2 w) (ht (Or.inr rfl))
    rwa [st2_self] at this
  · rw [sF3 ek ew]; exact h.st8 w (h3 rfl).2
  · rw [sF4 ek ew]
    unfold partF
    exact (h.st7 w (h.or hw (h45 (Or.inl rfl)))).st7 _ ((h.st7 w (h.or hw (h45 (Or.inl rfl)))).or (h45 (Or.inl rfl)) hw)
  · rw [sF5 ek ew]
    unfold unpartF
    exact (h.st7 w (h.an hw _)).st7 _ ((h.st7 w (h.an hw _)).an (h45 (Or.inr rfl)) _)
  · rw [sF6 ek ew]; exact h.st 6 w _ (Or.inl rfl)
  · rw [sF7 ek ew]; exact h.st 6 w _ (Or.inl rfl)
theorem fN_FB {G : Nat → Nat → Int32} (n : Nat) (hwf : ∀ i, i < n → wfE G i) : FB (fN G n) := by
  induction n with
  | zero =>
    refine ⟨fun j hj => ?_, fun r hr => ?_⟩
    · show (∃ m, m < 2 ^ 16 ∧ clr _ 7 j = nI m) ∧ (¬ clr _ 2 j = 0 → _)
      refine ⟨⟨0, by decide, by simp [clr, hj]⟩, fun z => absurd (by simp [clr, hj, nI_0]) z⟩
    · show nI 0 ≤ clr _ 8 r ∧ clr _ 8 r ≤ nI 400
      simp [clr, hr]
      decide +kernel
  | succ n ih => exact stepF_FB (hwf n (by omega)) (ih (fun i hi => hwf i (by omega)))
/-- a room, or none -/
def rOk (x : Int32) : Prop := x = (-1) ∨ ∃ r : Nat, r ≤ 5 ∧ x = nI r
theorem m1_no : ¬ (nI 0 ≤ (-1 : Int32) ∧ (-1 : Int32) ≤ nI 5) := by decide +kernel
theorem m1_ne {r : Nat} (h : r ≤ 5) : ¬ nI r = (-1) := by
  intro z
  have h1 := congrArg Int32.toInt z
  rw [nI_toInt (by omega), show (-1 : Int32).toInt = -1 by decide +kernel] at h1
  omega
theorem sc_cg {A B : Nat → Nat → Int32} {p q : Nat → Int32} (h : FR A B) (hp : ∀ j, j < 16 → p j = q j) : ∀ n, n ≤ 16 → (∀ r, r < 6 → scT A p n 9 r = scT B q n 9 r ∧ scT A p n 10 r = scT B q n 10 r) ∧ hdI A p n = hdI B q n ∧ sfI A p n = sfI B q n := by
  intro n
  induction n with
  | zero =>
    intro _
    refine ⟨fun r hr => ?_, rfl, rfl⟩
    simp [scT, va_up, fl, hr]
  | succ n ih =>
    intro hn
    obtain ⟨hT, hH, hS⟩ := ih (by omega)
    obtain ⟨e2, e6, e7, e3⟩ := h.1 n (by omega)
    have ep := hp n (by omega)
    by_cases c : A 2 n = 0
    · obtain ⟨a1, a2, a3⟩ := sc_no (p := p) c
      obtain ⟨b1, b2, b3⟩ := sc_no (M := B) (p := q) (j := n) (by rw [← e2]; exact c)
      rw [a1, a2, a3, b1, b2, b3]
      exact ⟨hT, hH, hS⟩
    · have cB : ¬ B 2 n = 0 := by rw [← e2]; exact c
      obtain ⟨t3, t4, t5⟩ := e3 c
      by_cases cr : nI 0 ≤ p n ∧ p n ≤ nI 5
      · obtain ⟨r, hr, er⟩ := wn (n := 5) (by decide) cr
        obtain ⟨a1, a2, a3⟩ := sc_rm c er hr
        obtain ⟨b1, b2, b3⟩ := sc_rm cB (ep ▸ er) hr
        obtain ⟨u1, u2⟩ := hT r (by omega)
        rw [a1, a2, a3, b1, b2, b3, u1, u2, hH, hS, t3, t4, t5, e7]
        refine ⟨fun z hz => ?_, rfl, rfl⟩
        obtain ⟨v1, v2⟩ := hT z hz
        simp only [st2_at, v1, v2]
        exact ⟨trivial, trivial⟩
      · obtain ⟨a1, a2, a3⟩ := sc_nr c cr
        obtain ⟨b1, b2, b3⟩ := sc_nr cB (ep ▸ cr)
        rw [a1, a2, a3, b1, b2, b3, hH, hS, t4]
        exact ⟨hT, rfl, rfl⟩
theorem scL_cg {A B : Nat → Nat → Int32} {p q : Nat → Int32} (h : FR A B) (hp : ∀ j, j < 16 → p j = q j) : scL A p = scL B q := by
  obtain ⟨hT, hH, hS⟩ := sc_cg h hp 16 (Nat.le_refl _)
  have ho : ∀ r, r ≤ 6 → hdO (scT A p 16) (hdI A p 16) r = hdO (scT B q 16) (hdI B q 16) r := by
    intro r
    induction r with
    | zero => intro _; exact hH
    | succ r ih =>
      intro hr
      unfold hdO
      rw [ih (by omega), (hT r (by omega)).1, scT_o A p 8 (by decide) (by decide), scT_o B q 8 (by decide) (by decide), h.2 r (by omega)]
  unfold scL scH scS
  rw [ho 6 (Nat.le_refl _), hS]
theorem scT_EF (A : Nat → Nat → Int32) (p : Nat → Int32) (n : Nat) : EF (scT A p n) A := fun k j z => by rw [scT_o A p k (by omega) (by omega)]
/-! the class's score is the reference's -/
section SE
variable {A N : Nat → Nat → Int32} {f pl own : Nat} {p : Nat → Int32}
theorem sf_eq (h : FR A (slc f N)) (hp : ∀ j, j < 16 → p j = rmO N pl own j) (hr : ∀ j, j < 16 → rOk (p j)) : ∀ n, n ≤ 16 → sfI A p n = sfR N pl f own n := by
  intro n
  induction n with
  | zero => intro _; rfl
  | succ n ih =>
    intro hn
    obtain ⟨e2, e6, e7, e3⟩ := h.1 n (by omega)
    have e2' : A 2 n = N 6 (16 * f + n) := e2
    unfold sfR
    rw [← hp n (by omega), ← e2', ← ih (by omega)]
    by_cases c : A 2 n = 0
    · rw [if_pos c]; exact (sc_no c).2.2
    · rw [if_neg c]
      obtain ⟨t3, t4, t5⟩ := e3 c
      have t4' : A 4 n = N 8 (16 * f + n) := t4
      have t5' : A 5 n = N 9 (16 * f + n) := t5
      rw [← t4', ← t5']
      rcases hr n (by omega) with e | ⟨r, hr5, e⟩
      · rw [if_pos e]; exact (sc_nr c (by rw [e]; exact m1_no)).2.2
      · rw [if_neg (by rw [e]; exact m1_ne hr5), (sc_rm c e hr5).2.2, e]
theorem abs_nI : ∀ r, r < 6 → ∀ v, v < 6 → absI (nI r - nI v) = nI (if v ≤ r then r - v else v - r) := by decide +kernel
theorem sf_b (hb : FB A) (hr : ∀ j, j < 16 → rOk (p j)) : ∀ n, n ≤ 16 → ∃ q, q ≤ 351 * n ∧ sfI A p n = nI q := by
  intro n
  induction n with
  | zero => intro _; exact ⟨0, by omega, rfl⟩
  | succ n ih =>
    intro hn
    obtain ⟨q, hq, eq⟩ := ih (by omega)
    by_cases c : A 2 n = 0
    · exact ⟨q, by omega, by rw [(sc_no c).2.2, eq]⟩
    · obtain ⟨-, ⟨w1, w2⟩, v1, v2⟩ := (hb.1 n (by omega)).2 c
      obtain ⟨w, hw, ew⟩ := wn (n := 50) (by decide) ⟨w1, w2⟩
      obtain ⟨v, hv, ev⟩ := wn (n := 5) (by decide) ⟨v1, v2⟩
      rcases hr n (by omega) with e | ⟨r, hr5, e⟩
      · refine ⟨q + (7 * w + 1), by omega, ?_⟩
        rw [(sc_nr c (by rw [e]; exact m1_no)).2.2, eq, ew, pk_mul, nI_add, nI_add]
      · refine ⟨q + w * (if v ≤ r then r - v else v - r), ?_, ?_⟩
        · have h1 : w * (if v ≤ r then r - v else v - r) ≤ 50 * 5 := Nat.mul_le_mul hw (by split <;> omega)
          omega
        · rw [(sc_rm c e hr5).2.2, eq, ew, ev, abs_nI r (by omega) v (by omega), pk_mul, nI_add]
theorem nI_z (x : Int32) : x + nI 0 = x := by rw [nI_0, Int32.add_zero]
theorem ld_eq (h : FR A (slc f N)) (hb : FB A) (hp : ∀ j, j < 16 → p j = rmO N pl own j) (hr : ∀ j, j < 16 → rOk (p j)) {z : Nat} (hz : z < 6) : ∀ n, n ≤ 16 → scT A p n 9 z = ldR N pl f own z n ∧ ∃ q, q ≤ 100 * n ∧ scT A p n 9 z = nI q := by
  intro n
  induction n with
  | zero => intro _; exact ⟨by simp [scT, va_up, fl, hz, ldR], 0, by omega, by simp [scT, va_up, fl, hz]⟩
  | succ n ih =>
    intro hn
    obtain ⟨i1, q, hq, eq⟩ := ih (by omega)
    obtain ⟨e2, e6, e7, e3⟩ := h.1 n (by omega)
    have e2' : A 2 n = N 6 (16 * f + n) := e2
    unfold ldR
    rw [← hp n (by omega), ← e2', ← i1]
    by_cases c : A 2 n = 0
    · rw [if_neg (fun y => y.1 c), nI_z, (sc_no c).1]
      exact ⟨rfl, q, by omega, eq⟩
    · obtain ⟨⟨l1, l2⟩, -, -⟩ := (hb.1 n (by omega)).2 c
      obtain ⟨g, hg, eg⟩ := wn (n := 100) (by decide) ⟨Int32.le_trans (show nI 0 ≤ nI 1 by decide +kernel) l1, l2⟩
      have t3 : A 3 n = N 7 (16 * f + n) := (e3 c).1
      rw [← t3]
      rcases hr n (by omega) with e | ⟨r, hr5, e⟩
      · rw [(sc_nr c (by rw [e]; exact m1_no)).1, if_neg (fun y => m1_ne (r := z) (by omega) (y.2.symm.trans e)), nI_z]
        exact ⟨rfl, q, by omega, eq⟩
      · rw [(sc_rm c e hr5).1, st2_at, st2_at]
        by_cases ez : z = r
        · subst ez
          rw [if_pos ⟨rfl, rfl⟩, if_pos ⟨c, e⟩]
          exact ⟨rfl, q + g, by omega, by rw [eq, eg, nI_add]⟩
        · rw [if_neg (fun y => ez y.2), if_neg (fun y => absurd y.1 (by decide)), if_neg (fun y => ez ((nI_eq (by omega) (by omega)).mp (e.symm.trans y.2)).symm), nI_z]
          exact ⟨rfl, q, by omega, eq⟩
/-- the guests of a room among the jobs below n, as bits -/
def gsN (A : Nat → Nat → Int32) (p : Nat → Int32) (z : Nat) : Nat → Nat
  | 0 => 0
  | n + 1 => if ¬ A 2 n = 0 ∧ p n = nI z then gsN A p z n ||| 2 ^ n else gsN A p z n
theorem gsN_lt (z n : Nat) : gsN A p z n < 2 ^ n := by
  induction n with
  | zero => exact Nat.one_pos
  | succ n ih =>
    unfold gsN
    have h1 : gsN A p z n < 2 ^ (n + 1) := Nat.lt_of_lt_of_le ih (Nat.pow_le_pow_right (by decide) (by omega))
    split
    · exact Nat.or_lt_two_pow h1 (Nat.pow_lt_pow_right (by decide) (by omega))
    · exact h1
theorem gsN_bit (z n k : Nat) : (gsN A p z n).testBit k = true ↔ k < n ∧ ¬ A 2 k = 0 ∧ p k = nI z := by
  induction n with
  | zero => simp [gsN]
  | succ n ih =>
    unfold gsN
    split
    · rename_i hc
      rw [Nat.testBit_or, Nat.testBit_two_pow, Bool.or_eq_true, ih, decide_eq_true_eq]
      constructor
      · rintro (⟨a, b⟩ | rfl)
        · exact ⟨by omega, b⟩
        · exact ⟨by omega, hc⟩
      · rintro ⟨a, b⟩
        by_cases e : n = k
        · exact Or.inr e
        · exact Or.inl ⟨by omega, b⟩
    · rename_i hc
      rw [ih]
      constructor
      · rintro ⟨a, b⟩; exact ⟨by omega, b⟩
      · rintro ⟨a, b⟩
        by_cases e : k = n
        · subst e; exact absurd b hc
        · exact ⟨by omega, b⟩
theorem gs_eq (hr : ∀ j, j < 16 → rOk (p j)) {z : Nat} (hz : z < 6) : ∀ n, n ≤ 16 → scT A p n 10 z = nI (gsN A p z n) := by
  intro n
  induction n with
  | zero => intro _; simp [scT, va_up, fl, hz, gsN]
  | succ n ih =>
    intro hn
    have i1 := ih (by omega)
    unfold gsN
    by_cases c : A 2 n = 0
    · rw [if_neg (fun y => y.1 c), (sc_no c).1, i1]
    · rcases hr n (by omega) with e | ⟨r, hr5, e⟩
      · rw [(sc_nr c (by rw [e]; exact m1_no)).1, if_neg (fun y => m1_ne (r := z) (by omega) (y.2.symm.trans e)), i1]
      · rw [(sc_rm c e hr5).1, st2_at, if_neg (fun y => absurd y.1 (by decide)), st2_at]
        by_cases ez : z = r
        · subst ez
          rw [if_pos ⟨rfl, rfl⟩, if_pos ⟨c, e⟩, i1, bitm_nI n (by omega), nI_or (Nat.lt_of_lt_of_le (gsN_lt z n) (Nat.pow_le_pow_right (by decide) (by omega))) (Nat.pow_lt_pow_right (by decide) (by omega))]
        · rw [if_neg (fun y => ez y.2), if_neg (fun y => ez ((nI_eq (by omega) (by omega)).mp (e.symm.trans y.2)).symm), i1]
theorem pcn_hi {x n : Nat} (hx : x < 2 ^ n) (d : Nat) : pcn x (n + d) = pcn x n := by
  induction d with
  | zero => rfl
  | succ d ih =>
    rw [show n + (d + 1) = n + d + 1 from rfl, pcn_s, ih, Nat.testBit_lt_two_pow (Nat.lt_of_lt_of_le hx (Nat.pow_le_pow_right (by decide) (by omega)))]
    rfl
theorem pr_eq (h : FR A (slc f N)) (hb : FB A) (hp : ∀ j, j < 16 → p j = rmO N pl own j) {n r m : Nat} (hn : n < 16) (er : p n = nI r) (hm : m < 2 ^ 16) (em : A 7 n = nI m) (x : Int32) : ∀ k, k ≤ n → prI N pl f own n x k = x + nI (10 * pcn (m &&& gsN A p r n) k) := by
  intro k
  induction k with
  | zero => intro _; show x = x + nI 0; rw [nI_z]
  | succ k ih =>
    intro hk
    unfold prI
    rw [pcn_s, ih (by omega)]
    have e2 : A 2 k = N 6 (16 * f + k) := (h.1 k (by omega)).1
    have e7 : A 7 n = N 11 (16 * f + n) := (h.1 n hn).2.2.1
    rw [← hp k (by omega), ← hp n hn, ← e2, ← e7, em, er]
    have hb2 : ((m &&& gsN A p r n).testBit k = true) ↔ (¬ A 2 k = 0 ∧ (nI m >>> (nI k &&& 31) &&& nI 1 = nI 1) ∧ p k = nI r) := by
      rw [Nat.testBit_and, Bool.and_eq_true, gsN_bit, bit_at hm (by omega)]
      constructor
      · rintro ⟨a, b, c, d⟩; exact ⟨c, a, d⟩
      · rintro ⟨a, b, c⟩; exact ⟨b, by omega, a, c⟩
    by_cases c : (m &&& gsN A p r n).testBit k = true
    · rw [if_pos (hb2.mp c), if_pos c, Int32.add_assoc, nI_add, Nat.mul_add]
    · rw [if_neg (fun y => c (hb2.mpr y)), if_neg c, nI_z, Nat.add_zero]
theorem hd_eq (h : FR A (slc f N)) (hb : FB A) (hp : ∀ j, j < 16 → p j = rmO N pl own j) (hr : ∀ j, j < 16 → rOk (p j)) : ∀ n, n ≤ 16 → hdR N pl f own n = ovR N pl f own 6 + hdI A p n := by
  intro n
  induction n with
  | zero => intro _; show _ = _ + nI 0; rw [nI_z]; rfl
  | succ n ih =>
    intro hn
    have e2 : A 2 n = N 6 (16 * f + n) := (h.1 n (by omega)).1
    unfold hdR
    rw [← e2, ih (by omega), ← hp n (by omega)]
    by_cases c : A 2 n = 0
    · rw [if_pos c, (sc_no c).2.1]
    · rw [if_neg c]
      rcases hr n (by omega) with e | ⟨r, hr5, e⟩
      · rw [if_pos e, (sc_nr c (by rw [e]; exact m1_no)).2.1]
      · obtain ⟨m, hm, em⟩ := (hb.1 n (by omega)).1
        have hg := gsN_lt (A := A) (p := p) r n
        have hg16 : gsN A p r n < 2 ^ 16 := Nat.lt_of_lt_of_le hg (Nat.pow_le_pow_right (by decide) (by omega))
        have hl : m &&& gsN A p r n < 2 ^ n := Nat.lt_of_le_of_lt Nat.and_le_right hg
        rw [if_neg (by rw [e]; exact m1_ne hr5), pr_eq h hb hp (by omega) e hm em _ n (Nat.le_refl _), (sc_rm c e hr5).2.1, em, gs_eq hr (by omega) n (by omega), nI_and (by omega) (by omega), bcnt_nI (Nat.lt_of_le_of_lt Nat.and_le_left hm), pk_mul, Int32.add_assoc]
        have hh := pcn_hi hl (16 - n)
        rw [show n + (16 - n) = 16 by omega] at hh
        rw [hh]
theorem ov_one {q z : Nat} (hq : q ≤ 1600) (hz : z ≤ 400) : (if nI 0 < nI q - nI z then nI q - nI z else nI 0) = if nI q ≤ nI z then nI 0 else nI q - nI z := by
  by_cases c : q ≤ z
  · rw [if_pos (c := nI q ≤ nI z) (nI_le c (by omega)), if_neg]
    intro y
    rcases Nat.lt_or_ge q z with g | g
    · have h1 := pk_sneg (by omega) g
      rw [nI_0] at y
      exact (Int32.lt_irrefl (Int32.lt_trans y h1)).elim
    · obtain rfl : q = z := by omega
      rw [pk_sub (Nat.le_refl _), Nat.sub_self] at y
      exact (Int32.lt_irrefl y).elim
  · rw [if_neg (c := nI q ≤ nI z) (nI_ge (by omega) (by omega)), if_pos]
    rw [pk_sub (by omega)]
    exact nI_lt (by omega) (by omega)
theorem ov_eq (h : FR A (slc f N)) (hb : FB A) (hp : ∀ j, j < 16 → p j = rmO N pl own j) (hr : ∀ j, j < 16 → rOk (p j)) (x : Int32) : ∀ r, r ≤ 6 → hdO (scT A p 16) x r = x + ovR N pl f own r := by
  intro r
  induction r with
  | zero => intro _; show x = x + nI 0; rw [nI_z]
  | succ r ih =>
    intro hr6
    unfold hdO ovR
    obtain ⟨e1, q, hq, eq⟩ := ld_eq h hb hp hr (z := r) (by omega) 16 (Nat.le_refl _)
    obtain ⟨y, hy, ey⟩ := wn (n := 400) (by decide) (hb.2 r (by omega))
    have e8 : A 8 r = N 12 (6 * f + r) := h.2 r (by omega)
    rw [ih (by omega), scT_o A p 8 (by decide) (by decide), ← e1, ← e8, eq, ey, ov_one (by omega) hy, Int32.add_assoc]
theorem scr_eq (h : FR A (slc f N)) (hb : FB A) (hp : ∀ j, j < 16 → p j = rmO N pl own j) (hr : ∀ j, j < 16 → rOk (p j)) : scL A p = pkL (hdR N pl f own 16) (sfR N pl f own 16) ∧ 0 ≤ (sfR N pl f own 16).toInt := by
  have e1 : scH A p = hdR N pl f own 16 := by
    unfold scH
    rw [ov_eq h hb hp hr _ 6 (Nat.le_refl _), hd_eq h hb hp hr 16 (Nat.le_refl _), Int32.add_comm]
  have e2 : scS A p = sfR N pl f own 16 := sf_eq h hp hr 16 (Nat.le_refl _)
  obtain ⟨q, hq, eq⟩ := sf_b hb hr 16 (Nat.le_refl _)
  refine ⟨by unfold scL; rw [e1, e2], ?_⟩
  rw [← e2, show scS A p = nI q from eq, nI_toInt (by omega)]
  omega
end SE
