/-! THE RELATION of a solve of the class and one of the reference -/
/-- the two logs are one, and a lock is of a job that was there -/
def LG (G N : Nat → Nat → Int32) (cnt : Nat) : Prop := (∀ i, i < cnt → ∀ k, k < 5 → G k i = N (k + 1) i) ∧ (∀ i, i < cnt → wfE G i) ∧ (∀ i, i < cnt → G 0 i = nI 6 → ¬ fN G i 2 (G 1 i).toNatClampNeg = 0)
theorem LG.le {G N : Nat → Nat → Int32} {a b : Nat} (h : LG G N b) (hab : a ≤ b) : LG G N a := ⟨fun i hi => h.1 i (by omega), fun i hi => h.2.1 i (by omega), fun i hi => h.2.2 i (by omega)⟩
theorem LG.wf {G N : Nat → Nat → Int32} {cnt : Nat} (h : LG G N cnt) : ∀ i, i < cnt → wfE (logR N) i := fun i hi => wfE_cg (h.1 i hi) (h.2.1 i hi)
theorem LG.cg {G N N2 : Nat → Nat → Int32} {cnt : Nat} (h : LG G N cnt) (hN : ∀ k, k < 6 → N2 k = N k) : LG G N2 cnt := ⟨fun i hi k hk => by rw [h.1 i hi k hk, hN (k + 1) (by omega)], h.2.1, h.2.2⟩
theorem LG.fb {G N : Nat → Nat → Int32} {cnt : Nat} (h : LG G N cnt) {k : Nat} (hk : k ≤ cnt) : FB (fN G k) := fN_FB k (fun i hi => h.2.1 i (by omega))
def CP (s : Nat) (MS N : Nat → Nat → Int32) : Prop := ∀ j, j < 16 → MS 1 j = rmO N s s j ∧ MS 2 j = rmO N (3 + s) s j ∧ rOk (MS 1 j) ∧ rOk (MS 2 j)
def CQ (G : Nat → Nat → Int32) (s k : Nat) (σ : SJM) (N : Nat → Nat → Int32) : Prop := FR σ.2.2 (fN G k) ∧ FR σ.2.2 (slc s N) ∧ CP s σ.1 N ∧ σ.1 11 0 = N 25 s
def CJ (σ : SJM) : Prop := σ.2.1 6 0 = scL σ.2.2 (σ.1 1) ∧ σ.2.1 7 0 = scL σ.2.2 (σ.1 2)
def CL (s L : Nat) (J : Nat → Int64) (N : Nat → Nat → Int32) : Prop := ∀ i, i < L → J i = pkL (N 22 (8 * s + i)) (N 23 (8 * s + i)) ∧ 0 ≤ (N 23 (8 * s + i)).toInt
theorem CQ.mv {G : Nat → Nat → Int32} {s k : Nat} {σ σ2 : SJM} {N N2 : Nat → Nat → Int32} (h : CQ G s k σ N) (h1 : σ2.1 1 = σ.1 1) (h2 : σ2.1 2 = σ.1 2) (h11 : σ2.1 11 0 = σ.1 11 0) (hF : FR σ2.2.2 σ.2.2) (hN : ∀ r, (6 ≤ r ∧ r ≤ 12 ∨ r = 14 ∨ r = 25) → N2 r = N r) : CQ G s k σ2 N2 := by
  obtain ⟨a, b, c, d⟩ := h
  refine ⟨hF.tr a, (hF.tr b).tr ((slc_o s (fun r x y => hN r (by omega))).fr.sy), fun j hj => ?_, ?_⟩
  · obtain ⟨c1, c2, c3, c4⟩ := c j hj
    rw [h1, h2, rmO_cg (hN 6 (by omega)) (hN 14 (by omega)), rmO_cg (hN 6 (by omega)) (hN 14 (by omega))]
    exact ⟨c1, c2, c3, c4⟩
  · rw [h11, hN 25 (by omega), d]
theorem CQ.sc {G : Nat → Nat → Int32} {s k : Nat} {σ : SJM} {N : Nat → Nat → Int32} (h : CQ G s k σ N) (hb : FB (fN G k)) : scL σ.2.2 (σ.1 1) = pkL (hdR N s s s 16) (sfR N s s s 16) ∧ 0 ≤ (sfR N s s s 16).toInt ∧ scL σ.2.2 (σ.1 2) = pkL (hdR N (3 + s) s s 16) (sfR N (3 + s) s s 16) ∧ 0 ≤ (sfR N (3 + s) s s 16).toInt := by
  obtain ⟨a, b, c, d⟩ := h
  obtain ⟨x1, x2⟩ := scr_eq (pl := s) (own := s) b (hb.of a) (fun j hj => (c j hj).1) (fun j hj => (c j hj).2.2.1)
  obtain ⟨y1, y2⟩ := scr_eq (pl := 3 + s) (own := s) b (hb.of a) (fun j hj => (c j hj).2.1) (fun j hj => (c j hj).2.2.2)
  exact ⟨x1, x2, y1, y2⟩
theorem keep_ok {G : Nat → Nat → Int32} {s k : Nat} {σ : SJM} {N : Nat → Nat → Int32} (hs : s < 3) (hb : FB (fN G k)) (h : CQ G s k σ N) (hj : CJ σ) : CQ G s k (keepB σ) (kbR N s) ∧ CJ (keepB σ) ∧ (keepB σ).2.1 6 0 = σ.2.1 6 0 ∧ (keepB σ).2.1 3 = σ.2.1 3 ∧ (keepB σ).2.2 = σ.2.2 := by
  obtain ⟨e1, p1, e2, p2⟩ := h.sc hb
  have hc : (σ.2.1 6 0 < σ.2.1 7 0) ↔ (hdR N s s s 16 < hdR N (3 + s) s s 16 ∨ hdR N s s s 16 = hdR N (3 + s) s s 16 ∧ sfR N s s s 16 < sfR N (3 + s) s s 16) := by
    rw [hj.1, hj.2, e1, e2]; exact pkL_lt p1 p2
  unfold keepB kbR
  by_cases c : σ.2.1 6 0 < σ.2.1 7 0
  · rw [if_pos c, if_pos (hc.mp c)]
    obtain ⟨a, b, cp, d⟩ := h
    have h6 : st2 (cpR (jdg N s s s) s (3 + s) 16) 25 s (N 25 s + nI 1) 6 = N 6 := by
      simp only [st2, va_up]; rw [if_neg (by decide), cpR_o _ _ _ _ _ (by decide), jdg_o _ _ _ _ _ (by decide) (by decide)]
    have h14 : ∀ i, st2 (cpR (jdg N s s s) s (3 + s) 16) 25 s (N 25 s + nI 1) 14 i = if 16 * (3 + s) ≤ i ∧ i < 16 * (3 + s) + 16 then N 14 (16 * s + (i - 16 * (3 + s))) else N 14 i := by
      intro i
      rw [st2_at, if_neg (by omega)]
      unfold cpR
      rw [jdg_o _ _ _ _ _ (by decide) (by decide)]
      by_cases z : 16 * (3 + s) ≤ i ∧ i < 16 * (3 + s) + 16
      · rw [if_pos ⟨rfl, z⟩, if_pos z]
      · rw [if_neg (fun y => z y.2), if_neg z]
    have m1 : (st2 (va_up σ.1 2 (va_cpy (σ.1 1) (σ.1 2) 0 0 16)) 11 0 (σ.1 11 0 + nI 1)) 1 = σ.1 1 := by simp [st2, va_up]
    have m2 : ∀ j, j < 16 → (st2 (va_up σ.1 2 (va_cpy (σ.1 1) (σ.1 2) 0 0 16)) 11 0 (σ.1 11 0 + nI 1)) 2 j = σ.1 1 j := fun j hj => by
      rw [st2_at, if_neg (by omega)]
      show va_up σ.1 2 _ 2 j = _
      unfold va_up
      rw [if_pos rfl, pk_cpy_in (by omega) (by omega), show 0 + (j - 0) = j by omega]
    refine ⟨⟨a, b.tr ((slc_o s (fun r x y => ?_)).fr.sy), fun j hj => ?_, ?_⟩, ⟨?_, ?_⟩, ?_, ?_, rfl⟩
    · simp only [st2, va_up]; rw [if_neg (by omega), cpR_o _ _ _ _ _ (by omega), jdg_o _ _ _ _ _ (by omega) (by omega)]
    · obtain ⟨c1, c2, c3, c4⟩ := cp j hj
      have r1 : rmO (st2 (cpR (jdg N s s s) s (3 + s) 16) 25 s (N 25 s + nI 1)) s s j = rmO N s s j := by
        have e14 : st2 (cpR (jdg N s s s) s (3 + s) 16) 25 s (N 25 s + nI 1) 14 (16 * s + j) = N 14 (16 * s + j) := by rw [h14, if_neg (by omega)]
        unfold rmO; rw [h6, e14]
      have r2 : rmO (st2 (cpR (jdg N s s s) s (3 + s) 16) 25 s (N 25 s + nI 1)) (3 + s) s j = rmO N s s j := by
        have e14 : st2 (cpR (jdg N s s s) s (3 + s) 16) 25 s (N 25 s + nI 1) 14 (16 * (3 + s) + j) = N 14 (16 * s + j) := by rw [h14, if_pos (by omega), show 16 * s + (16 * (3 + s) + j - 16 * (3 + s)) = 16 * s + j by omega]
        unfold rmO; rw [h6, e14]
      show (st2 (va_up σ.1 2 (va_cpy (σ.1 1) (σ.1 2) 0 0 16)) 11 0 (σ.1 11 0 + nI 1)) 1 j = _ ∧ _
      rw [r1, r2, m1]
      exact ⟨c1, by rw [← c1]; exact m2 j hj, c3, by
        show rOk ((st2 (va_up σ.1 2 (va_cpy (σ.1 1) (σ.1 2) 0 0 16)) 11 0 (σ.1 11 0 + nI 1)) 2 j)
        rw [m2 j hj]; exact c3⟩
    · show (st2 (va_up σ.1 2 (va_cpy (σ.1 1) (σ.1 2) 0 0 16)) 11 0 (σ.1 11 0 + nI 1)) 11 0 = (st2 (cpR (jdg N s s s) s (3 + s) 16) 25 s (N 25 s + nI 1)) 25 s
      rw [st2_at, if_pos ⟨rfl, rfl⟩, st2_at, if_pos ⟨rfl, rfl⟩, d]
    · show (st3 σ.2.1 7 0 (σ.2.1 6 0)) 6 0 = scL σ.2.2 ((st2 (va_up σ.1 2 (va_cpy (σ.1 1) (σ.1 2) 0 0 16)) 11 0 (σ.1 11 0 + nI 1)) 1)
      rw [st3_at, if_neg (by omega), hj.1]
      exact (scL_cg (FR.rf _) (fun j _ => by rw [m1])).symm
    · show (st3 σ.2.1 7 0 (σ.2.1 6 0)) 7 0 = scL σ.2.2 ((st2 (va_up σ.1 2 (va_cpy (σ.1 1) (σ.1 2) 0 0 16)) 11 0 (σ.1 11 0 + nI 1)) 2)
      rw [st3_at, if_pos ⟨rfl, rfl⟩, hj.1]
      exact (scL_cg (FR.rf _) (fun j hj => m2 j hj)).symm
    · show (st3 σ.2.1 7 0 (σ.2.1 6 0)) 6 0 = σ.2.1 6 0
      rw [st3_at, if_neg (by omega)]
    · show st3 σ.2.1 7 0 (σ.2.1 6 0) 3 = σ.2.1 3
      simp [st3, va_up]
  · rw [if_neg c, if_neg (fun y => c (hc.mpr y))]
    exact ⟨h.mv rfl rfl rfl (FR.rf _) (fun r hr => jdg_o _ _ _ _ _ (by omega) (by omega)), hj, rfl, rfl, rfl⟩
/-! catching up -/
theorem rOk_lock {x : Int32} (h : nI 0 ≤ x + 1 ∧ x + 1 ≤ nI 6) : rOk x := by
  obtain ⟨q, hq, e⟩ := wn (n := 6) (by decide) h
  have ex : x = nI q - 1 := by rw [← e, Int32.add_sub_cancel]
  cases q with
  | zero => left; rw [ex]; decide +kernel
  | succ q => right; exact ⟨q, by omega, by rw [ex, nI_pred]⟩
theorem stepF_2 {G F : Nat → Nat → Int32} {i k w : Nat} (hk : k < 8) (ek : G 0 i = nI k) (ew : (G 1 i).toNatClampNeg = w) (j : Nat) : stepF G i F 2 j = if k = 0 ∧ j = w then nI 1 else if k = 1 ∧ j = w then nI 0 else F 2 j := by
  have hc : k = 0 ∨ k = 1 ∨ k = 2 ∨ k = 3 ∨ k = 4 ∨ k = 5 ∨ k = 6 ∨ k = 7 := by omega
  rcases hc with rfl | rfl | rfl | rfl | rfl | rfl | rfl | rfl
  · rw [sF0 ek ew]; simp [traitF, st2_at]
  · rw [sF1 ek ew]; simp [leaveI, st2_at]
  · rw [sF2 ek ew]; simp [traitF, st2_at]
  · rw [sF3 ek ew]; simp [st2_at]
  · rw [sF4 ek ew]; simp [partF, st2_at]
  · rw [sF5 ek ew]; simp [unpartF, st2_at]
  · rw [sF6 ek ew]; simp [st2_at]
  · rw [sF7 ek ew]; simp [st2_at]
theorem flw_at {G : Nat → Nat → Int32} {i k w : Nat} (hk : k < 8) (ek : G 0 i = nI k) (ew : (G 1 i).toNatClampNeg = w) (MS : Nat → Nat → Int32) (r j : Nat) (hr : r = 1 ∨ r = 2) : flwS G i MS r j = if (k = 0 ∨ k = 1) ∧ j = w then (-1) else if k = 6 ∧ j = w then G 2 i else MS r j := by
  have q : ∀ a, a < 8 → (G 0 i = nI a ↔ k = a) := fun a ha => by rw [ek]; exact nI_eq (by omega) (by omega)
  unfold flwS
  rw [ew]
  by_cases c : k = 0 ∨ k = 1
  · rw [if_pos (c.imp (q 0 (by decide)).mpr (q 1 (by decide)).mpr)]
    rcases hr with rfl | rfl
    all_goals
      by_cases e : j = w
      · simp [st2_at, e, c]
      · simp [st2_at, e]
  · rw [if_neg (fun y => c (y.imp (q 0 (by decide)).mp (q 1 (by decide)).mp))]
    by_cases c6 : k = 6
    · rw [if_pos ((q 6 (by decide)).mpr c6)]
      rcases hr with rfl | rfl
      all_goals
        by_cases e : j = w
        · simp [st2_at, e, c6]
        · simp [st2_at, e]
    · rw [if_neg (fun y => c6 ((q 6 (by decide)).mp y))]
      simp [c, c6]
theorem cuI_14 {N : Nat → Nat → Int32} {s i k w : Nat} (hs : s < 3) (hk : k < 8) (ek : N 1 i = nI k) (ew : (N 2 i).toNatClampNeg = w) (hw : w < 16) (pl j : Nat) (hp : pl = s ∨ pl = 3 + s) (hj : j < 16) : cuI N s i 14 (16 * pl + j) = if k = 0 ∧ j = w then (-1) else if k = 6 ∧ j = w then N 3 i else N 14 (16 * pl + j) := by
  have q : ∀ a, a < 8 → (N 1 i = nI a ↔ k = a) := fun a ha => by rw [ek]; exact nI_eq (by omega) (by omega)
  have h0 : ∀ x, st2 (apR N s i) 18 s (nI (i + 1)) 14 x = N 14 x := fun x => by rw [st2_at, if_neg (by omega), apR_o _ _ _ _ (Or.inr (by decide))]
  unfold cuI
  rw [ew]
  by_cases c : k = 0
  · rw [if_pos ((q 0 (by decide)).mpr c), st2_at, st2_at, h0]
    by_cases e : j = w
    · rw [if_pos (c := k = 0 ∧ j = w) ⟨c, e⟩]
      rcases hp with rfl | rfl
      · rw [if_neg (by omega), if_pos (by omega)]
      · rw [if_pos (by omega)]
    · rw [if_neg (by omega), if_neg (by omega), if_neg (fun y => e y.2), if_neg (fun y => e y.2)]
  · rw [if_neg (fun y => c ((q 0 (by decide)).mp y)), if_neg (c := k = 0 ∧ j = w) (fun y => c y.1)]
    by_cases c6 : k = 6
    · rw [if_pos ((q 6 (by decide)).mpr c6), st2_at, st2_at, h0]
      by_cases e : j = w
      · rw [if_pos (c := k = 6 ∧ j = w) ⟨c6, e⟩]
        rcases hp with rfl | rfl
        · rw [if_neg (by omega), if_pos (by omega)]
        · rw [if_pos (by omega)]
      · rw [if_neg (by omega), if_neg (by omega), if_neg (fun y => e y.2)]
    · rw [if_neg (fun y => c6 ((q 6 (by decide)).mp y)), if_neg (fun y => c6 y.1), h0]
theorem cuI_f {N : Nat → Nat → Int32} {s i : Nat} (r : Nat) (h1 : 6 ≤ r) (h2 : r ≤ 12) : cuI N s i r = apR N s i r := by
  unfold cuI
  repeat' split
  all_goals (simp only [st2, va_up]; repeat rw [if_neg (by omega)])
theorem cuI_ok {G N MS : Nat → Nat → Int32} {s i : Nat} (hs : s < 3) (hl : LG G N (i + 1)) (h : FR (slc s N) (fN G i)) (hp : CP s MS N) : FR (slc s (cuI N s i)) (fN G (i + 1)) ∧ CP s (flwS G i MS) (cuI N s i) := by
  have ha := hl.1 i (by omega)
  have hwN : wfE (logR N) i := hl.wf i (by omega)
  obtain ⟨k, w, hk, hw, ek, ew, -, -, -, h6⟩ := wfE_k (hl.2.1 i (by omega))
  have ek2 : N 1 i = nI k := (ha 0 (by decide)).symm.trans ek
  have ew2 : (N 2 i).toNatClampNeg = w := by rw [← ew, ha 1 (by decide)]
  have e3 : N 3 i = G 2 i := (ha 2 (by decide)).symm
  have hE : EF (slc s (cuI N s i)) (stepF G i (slc s N)) := by
    refine (slc_o (N := apR N s i) s (fun r x y => cuI_f r x y)).tr ?_
    have := apR_slc (f := s) hwN
    rwa [stepF_cg (G := logR N) (G2 := G) (fun k hk => (ha k hk).symm)] at this
  refine ⟨hE.fr.tr (stepF_FR (hl.2.1 i (by omega)) h), fun j hj => ?_⟩
  have t6 : cuI N s i 6 (16 * s + j) = if k = 0 ∧ j = w then nI 1 else if k = 1 ∧ j = w then nI 0 else N 6 (16 * s + j) := by
    have := hE 2 j (by omega)
    rw [stepF_2 hk ek ew] at this
    exact this
  obtain ⟨c1, c2, c3, c4⟩ := hp j hj
  rw [flw_at hk ek ew MS 1 j (Or.inl rfl), flw_at hk ek ew MS 2 j (Or.inr rfl)]
  unfold rmO at c1 c2 ⊢
  rw [t6, cuI_14 hs hk ek2 ew2 hw s j (Or.inl rfl) hj, cuI_14 hs hk ek2 ew2 hw (3 + s) j (Or.inr rfl) hj, e3]
  have rm : rOk (-1) := Or.inl rfl
  have n10 : ¬ nI 1 = 0 := by decide +kernel
  by_cases e : j = w
  · subst e
    by_cases k0 : k = 0
    · subst k0
      simp [rm, n10]
    · by_cases k1 : k = 1
      · subst k1
        simp [rm, nI_0]
      · by_cases k6 : k = 6
        · have ht : ¬ N 6 (16 * s + j) = 0 := by
            have h1 := hl.2.2 i (by omega) (by rw [ek, k6])
            rw [ew] at h1
            have h2 : N 6 (16 * s + j) = fN G i 2 j := (h.1 j hj).1
            rw [h2]; exact h1
          have ho := rOk_lock (h6 k6)
          subst k6
          simp [ht, ho]
        · simp only [k0, k1, k6, false_and, or_self, if_false]
          exact ⟨c1, c2, c3, c4⟩
  · simp only [e, and_false, if_false]
    exact ⟨c1, c2, c3, c4⟩
theorem cu_ok {G N MS : Nat → Nat → Int32} {s k : Nat} (hs : s < 3) (c : Nat) (hl : LG G N (k + c)) (h : FR (slc s N) (fN G k)) (hp : CP s MS N) : FR (slc s (cuR s k c N)) (fN G (k + c)) ∧ CP s (itS G k c MS) (cuR s k c N) := by
  induction c with
  | zero => exact ⟨h, hp⟩
  | succ c ih =>
    obtain ⟨i1, i2⟩ := ih (hl.le (by omega))
    exact cuI_ok hs (hl.cg (fun r hr => cuR_o s k c N r (Or.inl hr) (by omega) (by omega))) i1 i2
theorem anew_ok {G N : Nat → Nat → Int32} {s k : Nat} {σ : SJM} (h : CQ G s k σ N) : CQ G s k (anew σ) N ∧ CJ (anew σ) ∧ (anew σ).2.1 3 = σ.2.1 3 := by
  have hF : FR (anew σ).2.2 σ.2.2 := ((scT_EF _ _ 16).tr (scT_EF _ _ 16)).fr
  refine ⟨h.mv rfl rfl rfl hF (fun _ _ => rfl), ⟨?_, ?_⟩, ?_⟩
  · show st3 (st3 σ.2.1 6 0 (scL σ.2.2 (σ.1 1))) 7 0 (scL (scT σ.2.2 (σ.1 1) 16) (σ.1 2)) 6 0 = scL (anew σ).2.2 (σ.1 1)
    rw [st3_at, if_neg (by omega), st3_at, if_pos ⟨rfl, rfl⟩]
    exact scL_cg hF.sy (fun _ _ => rfl)
  · show st3 (st3 σ.2.1 6 0 (scL σ.2.2 (σ.1 1))) 7 0 (scL (scT σ.2.2 (σ.1 1) 16) (σ.1 2)) 7 0 = scL (anew σ).2.2 (σ.1 2)
    rw [st3_at, if_pos ⟨rfl, rfl⟩]
    exact scL_cg ((scT_EF _ _ 16).fr.sy) (fun _ _ => rfl)
  · show st3 (st3 σ.2.1 6 0 (scL σ.2.2 (σ.1 1))) 7 0 (scL (scT σ.2.2 (σ.1 1) 16) (σ.1 2)) 3 = σ.2.1 3
    simp [st3, va_up]
theorem cat_ok {G N : Nat → Nat → Int32} {s k n L : Nat} {σ : SJM} (hs : s < 3) (hkn : k < n) (hl : LG G N n) (h : CQ G s k σ N) : CQ G s n (catchS G k n L σ) (catR N s k n L) ∧ CJ (catchS G k n L σ) ∧ CL s L ((catchS G k n L σ).2.1 3) (catR N s k n L) := by
  have hfb := hl.fb (Nat.le_refl n)
  obtain ⟨a, b, c, d⟩ := h
  have hl2 : LG G N (k + (n - k)) := by rw [show k + (n - k) = n by omega]; exact hl
  obtain ⟨u1, u2⟩ := cu_ok hs (n - k) hl2 (b.sy.tr a) c
  rw [show k + (n - k) = n by omega] at u1
  have hB : FR (becF G k n σ.2.2) (fN G n) := becF_FR hl.2.1 a
  have h1 : CQ G s n (itS G k (n - k) σ.1, σ.2.1, becF G k n σ.2.2) (cuR s k (n - k) N) := ⟨hB, hB.tr u1.sy, u2, by
    show itS G k (n - k) σ.1 11 0 = cuR s k (n - k) N 25 s
    rw [itS_o _ _ _ _ _ (by decide) (by decide), cuR_o _ _ _ _ _ (Or.inr (by decide)) (by decide) (by decide), d]⟩
  obtain ⟨h2, j2, -⟩ := anew_ok h1
  obtain ⟨h3, j3, -, -, -⟩ := keep_ok hs hfb h2 j2
  obtain ⟨σ3, e3⟩ : ∃ z, z = keepB (anew (itS G k (n - k) σ.1, σ.2.1, becF G k n σ.2.2)) := ⟨_, rfl⟩
  obtain ⟨N2, eN⟩ : ∃ z, z = kbR (cuR s k (n - k) N) s := ⟨_, rfl⟩
  have ec : catchS G k n L σ = lateA L σ3 := by rw [e3]; rfl
  have er : catR N s k n L = flR N2 s L := by rw [eN]; rfl
  rw [← e3] at h3 j3
  rw [← eN] at h3
  rw [ec, er]
  obtain ⟨e1, p1, -, -⟩ := h3.sc hfb
  have a3 : ∀ r, r ≠ 3 → (lateA L σ3).2.1 r = σ3.2.1 r := fun r hr => if_neg hr
  have fo : ∀ r, r ≠ 15 → r ≠ 16 → r ≠ 22 → r ≠ 23 → flR N2 s L r = N2 r := fun r x1 x2 x3 x4 => by
    unfold flR
    rw [flI_o _ _ _ _ _ _ x3 x4, jdg_o _ _ _ _ _ x1 x2]
  refine ⟨h3.mv rfl rfl rfl (FR.rf _) (fun r hr => fo r (by omega) (by omega) (by omega) (by omega)), ⟨?_, ?_⟩, fun i hi => ?_⟩
  · rw [a3 6 (by decide)]; exact j3.1
  · rw [a3 7 (by decide)]; exact j3.2
  · have ex : (lateA L σ3).2.1 3 i = σ3.2.1 6 0 := by
      show va_up σ3.2.1 3 (fl (σ3.2.1 3) L (σ3.2.1 6 0)) 3 i = _
      simp [va_up, fl, hi]
    have e22 : flR N2 s L 22 (8 * s + i) = hdR N2 s s s 16 := by
      unfold flR flI; rw [if_pos (by omega)]
    have e23 : flR N2 s L 23 (8 * s + i) = sfR N2 s s s 16 := by
      unfold flR flI; rw [if_neg (by omega), if_pos (by omega)]
    rw [ex, e22, e23]
    exact ⟨j3.1.trans e1, p1⟩
