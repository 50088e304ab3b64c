/-! steps, alike -/
theorem mvc_fr {A B : Nat → Nat → Int32} (h : FR A B) : ∀ n, n ≤ 16 → mvc A n = mvc B n := by
  intro n
  induction n with
  | zero => intro _; rfl
  | succ n ih =>
    intro hn
    unfold mvc
    rw [ih (by omega), (h.1 n (by omega)).1, (h.1 n (by omega)).2.1]
theorem mvr_fr {A B : Nat → Nat → Int32} (f g : Nat → Int32) (h : FR A B) : ∀ n, n ≤ 16 → ∀ i, i < mvc A n → mvr A f n i = mvr B g n i := by
  intro n
  induction n with
  | zero => intro _ i hi; exact absurd hi (Nat.not_lt_zero _)
  | succ n ih =>
    intro hn i hi
    have e := mvc_fr h n (by omega)
    unfold mvc at hi
    unfold mvr
    rw [← (h.1 n (by omega)).1, ← (h.1 n (by omega)).2.1, ← e]
    by_cases c : ¬ A 2 n = 0 ∧ A 6 n = (-2)
    · rw [if_pos c] at hi
      rw [if_pos c, if_pos c]
      unfold upd
      by_cases z : i = mvc A n
      · rw [if_pos z, if_pos z]
      · rw [if_neg z, if_neg z]; exact ih (by omega) i (by omega)
    · rw [if_neg c] at hi
      rw [if_neg c, if_neg c]
      exact ih (by omega) i hi
theorem mv_job (A : Nat → Nat → Int32) (f : Nat → Int32) : ∀ n i, i < mvc A n → ∃ j : Nat, j < n ∧ mvr A f n i = nI j ∧ ¬ A 2 j = 0 := by
  intro n
  induction n with
  | zero => intro i hi; exact absurd hi (Nat.not_lt_zero _)
  | succ n ih =>
    intro i hi
    unfold mvc at hi
    unfold mvr
    by_cases c : ¬ A 2 n = 0 ∧ A 6 n = (-2)
    · rw [if_pos c] at hi
      rw [if_pos c]
      unfold upd
      by_cases z : i = mvc A n
      · exact ⟨n, by omega, by rw [if_pos z], c.1⟩
      · obtain ⟨j, hj, ej, tj⟩ := ih i (by omega)
        exact ⟨j, by omega, by rw [if_neg z]; exact ej, tj⟩
    · rw [if_neg c] at hi
      rw [if_neg c]
      obtain ⟨j, hj, ej, tj⟩ := ih i hi
      exact ⟨j, by omega, ej, tj⟩
theorem jth_fr {A B : Nat → Nat → Int32} (h : FR A B) {i : Nat} (hi : i < mvc A 16) : jth A i = jth B i := by
  unfold jth; rw [mvr_fr (fun _ => 0) (fun _ => 0) h 16 (Nat.le_refl _) i hi]
theorem jth_th (A : Nat → Nat → Int32) {i : Nat} (hi : i < mvc A 16) : jth A i < 16 ∧ ¬ A 2 (jth A i) = 0 := by
  obtain ⟨j, hj, ej, tj⟩ := mv_job A (fun _ => 0) 16 i hi
  have : jth A i = j := by unfold jth; rw [ej]; exact nI_clamp (by omega)
  rw [this]; exact ⟨hj, tj⟩
/-- like CQ.mv, with the rooms place by place -/
theorem CQ.mv2 {G : Nat → Nat → Int32} {s k : Nat} {σ σ2 : SJM} {N N2 : Nat → Nat → Int32} (h : CQ G s k σ N) (h1 : σ2.1 1 = σ.1 1) (h2 : σ2.1 2 = σ.1 2) (h11 : σ2.1 11 0 = σ.1 11 0) (hF : FR σ2.2.2 σ.2.2) (hN : ∀ r, (6 ≤ r ∧ r ≤ 12 ∨ r = 25) → N2 r = N r) (h14 : ∀ j, j < 16 → N2 14 (16 * s + j) = N 14 (16 * s + j) ∧ N2 14 (16 * (3 + s) + j) = N 14 (16 * (3 + s) + j)) : CQ G s k σ2 N2 := by
  obtain ⟨a, b, c, d⟩ := h
  refine ⟨hF.tr a, (hF.tr b).tr ((slc_o s (fun r x y => hN r (by omega))).fr.sy), fun j hj => ?_, ?_⟩
  · obtain ⟨c1, c2, c3, c4⟩ := c j hj
    rw [h1, h2]
    unfold rmO at c1 c2 ⊢
    rw [hN 6 (by omega), (h14 j hj).1, (h14 j hj).2]
    exact ⟨c1, c2, c3, c4⟩
  · rw [h11, hN 25 (by omega), d]
def MV (F : Nat → Nat → Int32) (MS : Nat → Nat → Int32) : Prop := ∀ i, i < mvc F 16 → MS 5 i = mvr F (fun _ => 0) 16 i
theorem jIx_eq {F MS : Nat → Nat → Int32} (h : MV F MS) (h0 : 0 < mvc F 16) (q : Nat) : jIx MS (mvc F 16) q = jth F (unat (MS 9 0) q % mvc F 16) := by
  unfold jIx jth; rw [h _ (Nat.mod_lt _ h0)]
/-- the tried plan's table -/
theorem trR_14 {N : Nat → Nat → Int32} {s : Nat} (i : Nat) (hi : i < 96) : trR N s 14 i = N 14 i := by
  unfold trR
  split
  · rw [st2_at, if_neg (by omega), st2_at, if_neg (by omega)]; unfold cpR; rw [if_neg (by omega)]
  · rw [st2_at, if_neg (by omega)]; unfold cpR; rw [if_neg (by omega)]
theorem try_pl {G N : Nat → Nat → Int32} {s k : Nat} {σ : SJM} (hs : s < 3) (h : CQ G s k σ N) (hm : MV (fN G k) σ.1) (h0 : 0 < mvc (fN G k) 16) (hx : σ.1 9 0 = N 20 s) : ∀ j, j < 16 → tpl σ.1 (mvc (fN G k) 16) j = rmO (trR N s) 6 s j ∧ rOk (tpl σ.1 (mvc (fN G k) 16) j) := by
  obtain ⟨a, b, c, d⟩ := h
  have hFN : FR (slc s N) (fN G k) := b.sy.tr a
  have em : mvc (slc s N) 16 = mvc (fN G k) 16 := mvc_fr hFN 16 (Nat.le_refl _)
  have ej : ∀ q, jth (slc s N) (unat (N 20 s) q % mvc (slc s N) 16) = jIx σ.1 (mvc (fN G k) 16) q := fun q => by
    rw [jIx_eq hm h0, em, hx]
    exact jth_fr hFN (by rw [em]; exact Nat.mod_lt _ h0)
  have tj : ∀ q, jIx σ.1 (mvc (fN G k) 16) q < 16 ∧ ¬ N 6 (16 * s + jIx σ.1 (mvc (fN G k) 16) q) = 0 := fun q => by
    rw [jIx_eq hm h0]
    obtain ⟨x1, x2⟩ := jth_th (fN G k) (Nat.mod_lt (unat (σ.1 9 0) q) h0)
    refine ⟨x1, ?_⟩
    have : N 6 (16 * s + jth (fN G k) (unat (σ.1 9 0) q % mvc (fN G k) 16)) = fN G k 2 (jth (fN G k) (unat (σ.1 9 0) q % mvc (fN G k) 16)) := (hFN.1 _ x1).1
    rw [this]; exact x2
  have pj : ∀ i, i < 16 → ¬ N 6 (16 * s + i) = 0 → σ.1 1 i = N 14 (16 * s + i) := fun i hi ht => by
    rw [(c i hi).1]; unfold rmO; rw [if_neg ht]
  obtain ⟨j1, t1⟩ := tj 16
  obtain ⟨j2, t2⟩ := tj 20
  intro j hj
  have r6 : rmO (trR N s) 6 s j = if N 6 (16 * s + j) = 0 then (-1) else trR N s 14 (96 + j) := by
    unfold rmO; rw [trR_o _ _ 6 (by decide)]
  have c0 : cpR N s 6 16 14 (96 + j) = N 14 (16 * s + j) := by
    unfold cpR; rw [if_pos (by omega), show 16 * s + (96 + j - 16 * 6) = 16 * s + j by omega]
  rw [r6]
  have ok := c j hj
  by_cases sw : unat (N 20 s) 8 % 4 = 3
  · have e1 : tpl σ.1 (mvc (fN G k) 16) j = if j = jIx σ.1 (mvc (fN G k) 16) 20 then σ.1 1 (jIx σ.1 (mvc (fN G k) 16) 16) else if j = jIx σ.1 (mvc (fN G k) 16) 16 then σ.1 1 (jIx σ.1 (mvc (fN G k) 16) 20) else σ.1 1 j := by
      unfold tpl; rw [hx, if_pos sw]; rfl
    have e2 : trR N s 14 (96 + j) = if j = jIx σ.1 (mvc (fN G k) 16) 20 then N 14 (16 * s + jIx σ.1 (mvc (fN G k) 16) 16) else if j = jIx σ.1 (mvc (fN G k) 16) 16 then N 14 (16 * s + jIx σ.1 (mvc (fN G k) 16) 20) else N 14 (16 * s + j) := by
      unfold trR
      rw [if_pos sw, ej, ej, st2_at, st2_at, c0]
      by_cases z2 : j = jIx σ.1 (mvc (fN G k) 16) 20
      · rw [if_pos (by omega), if_pos z2]
      · rw [if_neg (by omega), if_neg z2]
        by_cases z1 : j = jIx σ.1 (mvc (fN G k) 16) 16
        · rw [if_pos (by omega), if_pos z1]
        · rw [if_neg (by omega), if_neg z1]
    rw [e1, e2]
    by_cases z2 : j = jIx σ.1 (mvc (fN G k) 16) 20
    · rw [if_pos z2, if_neg (by rw [z2]; exact t2), if_pos z2]
      exact ⟨pj _ j1 t1, (c _ j1).2.2.1⟩
    · rw [if_neg z2, if_neg z2]
      by_cases z1 : j = jIx σ.1 (mvc (fN G k) 16) 16
      · rw [if_pos z1, if_neg (by rw [z1]; exact t1), if_pos z1]
        exact ⟨pj _ j2 t2, (c _ j2).2.2.1⟩
      · rw [if_neg z1, if_neg z1]
        exact ⟨ok.1, ok.2.2.1⟩
  · have e1 : tpl σ.1 (mvc (fN G k) 16) j = if j = jIx σ.1 (mvc (fN G k) 16) 16 then (if unat (N 20 s) 24 % 7 ≤ 5 then nI (unat (N 20 s) 24 % 7) else (-1)) else σ.1 1 j := by
      unfold tpl; rw [hx, if_neg sw]; rfl
    have e2 : trR N s 14 (96 + j) = if j = jIx σ.1 (mvc (fN G k) 16) 16 then (if unat (N 20 s) 24 % 7 = 6 then (-1) else nI (unat (N 20 s) 24 % 7)) else N 14 (16 * s + j) := by
      unfold trR
      rw [if_neg sw, ej, st2_at, c0]
      by_cases z1 : j = jIx σ.1 (mvc (fN G k) 16) 16
      · rw [if_pos (by omega), if_pos z1]
      · rw [if_neg (by omega), if_neg z1]
    rw [e1, e2]
    by_cases z1 : j = jIx σ.1 (mvc (fN G k) 16) 16
    · rw [if_pos z1, if_neg (c := N 6 (16 * s + j) = 0) (by rw [z1]; exact t1), if_pos z1]
      have h7 := Nat.mod_lt (unat (N 20 s) 24) (show 0 < 7 by decide)
      by_cases z6 : unat (N 20 s) 24 % 7 = 6
      · rw [if_neg (c := unat (N 20 s) 24 % 7 ≤ 5) (by omega), if_pos z6]; exact ⟨rfl, Or.inl rfl⟩
      · rw [if_pos (c := unat (N 20 s) 24 % 7 ≤ 5) (by omega), if_neg z6]; exact ⟨rfl, Or.inr ⟨_, by omega, rfl⟩⟩
    · rw [if_neg z1, if_neg z1]
      exact ⟨ok.1, ok.2.2.1⟩
theorem try_ok {G N : Nat → Nat → Int32} {s k at_ : Nat} {σ : SJM} {late : Int64} (hs : s < 3) (hb : FB (fN G k)) (h : CQ G s k σ N) (hj : CJ σ) (hm : MV (fN G k) σ.1) (h0 : 0 < mvc (fN G k) 16) (hx : σ.1 9 0 = N 20 s) (h10 : σ.1 10 0 = N 24 s) (hla : late = pkL (N 22 at_) (N 23 at_)) (hl0 : 0 ≤ (N 23 at_).toInt) : CQ G s k (tryS (mvc (fN G k) 16) late σ) (atR N s at_) ∧ CJ (tryS (mvc (fN G k) 16) late σ) ∧ (tryS (mvc (fN G k) 16) late σ).1 10 0 = atR N s at_ 24 s ∧ (tryS (mvc (fN G k) 16) late σ).2.1 3 = σ.2.1 3 := by
  have hp := try_pl hs h hm h0 hx
  have em : ¬ mvc (slc s N) 16 = 0 := by rw [mvc_fr (h.2.1.sy.tr h.1) 16 (Nat.le_refl _)]; omega
  have hT : CQ G s k σ (trR N s) := h.mv2 rfl rfl rfl (FR.rf _) (fun r hr => trR_o _ _ r (by omega)) (fun j hj => ⟨trR_14 _ (by omega), trR_14 _ (by omega)⟩)
  obtain ⟨e1, p1, -, -⟩ := hT.sc hb
  obtain ⟨e2, p2⟩ := scr_eq (pl := 6) (own := s) hT.2.1 (hb.of h.1) (fun j hj => (hp j hj).1) (fun j hj => (hp j hj).2)
  have hc1 : (σ.2.1 6 0 < scL σ.2.2 (tpl σ.1 (mvc (fN G k) 16))) ↔ (hdR (trR N s) s s s 16 < hdR (trR N s) 6 s s 16 ∨ hdR (trR N s) s s s 16 = hdR (trR N s) 6 s s 16 ∧ sfR (trR N s) s s s 16 < sfR (trR N s) 6 s s 16) := by
    rw [hj.1, e1, e2]; exact pkL_lt p1 p2
  have hc2 : (late < scL σ.2.2 (tpl σ.1 (mvc (fN G k) 16))) ↔ (N 22 at_ < hdR (trR N s) 6 s s 16 ∨ N 22 at_ = hdR (trR N s) 6 s s 16 ∧ N 23 at_ < sfR (trR N s) 6 s s 16) := by
    rw [hla, e2]; exact pkL_lt hl0 p2
  have hF : FR (scT σ.2.2 (tpl σ.1 (mvc (fN G k) 16)) 16) σ.2.2 := (scT_EF _ _ 16).fr
  unfold tryS atR
  rw [if_neg em]
  by_cases c : σ.2.1 6 0 < scL σ.2.2 (tpl σ.1 (mvc (fN G k) 16)) ∧ late < scL σ.2.2 (tpl σ.1 (mvc (fN G k) 16))
  · rw [if_pos c, if_pos ⟨hc1.mp c.1, hc2.mp c.2⟩]
    refine ⟨hT.mv rfl rfl rfl hF (fun r hr => jdg_o _ _ _ _ _ (by omega) (by omega)), ⟨?_, ?_⟩, ?_, rfl⟩
    · exact hj.1.trans (scL_cg hF.sy (fun _ _ => rfl))
    · exact hj.2.trans (scL_cg hF.sy (fun _ _ => rfl))
    · rw [jdg_o _ _ _ _ _ (by decide) (by decide), trR_o _ _ _ (by decide)]; exact h10
  · rw [if_neg c, if_neg (fun y => c ⟨hc1.mpr y.1, hc2.mpr y.2⟩)]
    have m1 : st2 (va_up σ.1 1 (tpl σ.1 (mvc (fN G k) 16))) 10 0 (σ.1 10 0 + nI 1) 1 = tpl σ.1 (mvc (fN G k) 16) := by simp [st2, va_up]
    have m2 : st2 (va_up σ.1 1 (tpl σ.1 (mvc (fN G k) 16))) 10 0 (σ.1 10 0 + nI 1) 2 = σ.1 2 := by simp [st2, va_up]
    have n14 : ∀ i, st2 (cpR (jdg (trR N s) 6 s s) 6 s 16) 24 s (N 24 s + nI 1) 14 i = if 16 * s ≤ i ∧ i < 16 * s + 16 then trR N s 14 (96 + (i - 16 * s)) else trR N s 14 i := by
      intro i
      rw [st2_at, if_neg (by omega)]
      unfold cpR
      rw [jdg_o _ _ _ _ _ (by decide) (by decide)]
      by_cases z : 16 * s ≤ i ∧ i < 16 * s + 16
      · rw [if_pos ⟨rfl, z⟩, if_pos z]
      · rw [if_neg (fun y => z y.2), if_neg z]
    have no : ∀ r, r ≠ 14 → r ≠ 15 → r ≠ 16 → r ≠ 24 → st2 (cpR (jdg (trR N s) 6 s s) 6 s 16) 24 s (N 24 s + nI 1) r = N r := by
      intro r x1 x2 x3 x4
      simp only [st2, va_up]
      rw [if_neg x4, cpR_o _ _ _ _ _ x1, jdg_o _ _ _ _ _ x2 x3, trR_o _ _ _ x1]
    obtain ⟨a, b, cc, d⟩ := h
    refine ⟨⟨hF.tr a, (hF.tr b).tr ((slc_o s (fun r x y => no r (by omega) (by omega) (by omega) (by omega))).fr.sy), fun j hj => ?_, ?_⟩, ⟨?_, ?_⟩, ?_, ?_⟩
    · have k1 : rmO (st2 (cpR (jdg (trR N s) 6 s s) 6 s 16) 24 s (N 24 s + nI 1)) s s j = rmO (trR N s) 6 s j := by
        have y14 : (st2 (cpR (jdg (trR N s) 6 s s) 6 s 16) 24 s (N 24 s + nI 1)) 14 (16 * s + j) = trR N s 14 (16 * 6 + j) := by rw [n14, if_pos (by omega), show 16 * s + j - 16 * s = j by omega]
        unfold rmO
        rw [no 6 (by decide) (by decide) (by decide) (by decide), y14, trR_o _ _ 6 (by decide)]
      have k2 : rmO (st2 (cpR (jdg (trR N s) 6 s s) 6 s 16) 24 s (N 24 s + nI 1)) (3 + s) s j = rmO N (3 + s) s j := by
        have y14 : (st2 (cpR (jdg (trR N s) 6 s s) 6 s 16) 24 s (N 24 s + nI 1)) 14 (16 * (3 + s) + j) = N 14 (16 * (3 + s) + j) := by rw [n14, if_neg (by omega), trR_14 _ (by omega)]
        unfold rmO
        rw [no 6 (by decide) (by decide) (by decide) (by decide), y14]
      show (st2 (va_up σ.1 1 (tpl σ.1 (mvc (fN G k) 16))) 10 0 (σ.1 10 0 + nI 1)) 1 j = rmO (st2 (cpR (jdg (trR N s) 6 s s) 6 s 16) 24 s (N 24 s + nI 1)) s s j ∧ (st2 (va_up σ.1 1 (tpl σ.1 (mvc (fN G k) 16))) 10 0 (σ.1 10 0 + nI 1)) 2 j = rmO (st2 (cpR (jdg (trR N s) 6 s s) 6 s 16) 24 s (N 24 s + nI 1)) (3 + s) s j ∧ rOk ((st2 (va_up σ.1 1 (tpl σ.1 (mvc (fN G k) 16))) 10 0 (σ.1 10 0 + nI 1)) 1 j) ∧ rOk ((st2 (va_up σ.1 1 (tpl σ.1 (mvc (fN G k) 16))) 10 0 (σ.1 10 0 + nI 1)) 2 j)
      rw [k1, k2, m1, m2]
      exact ⟨(hp j hj).1, (cc j hj).2.1, (hp j hj).2, (cc j hj).2.2.2⟩
    · show (st2 (va_up σ.1 1 (tpl σ.1 (mvc (fN G k) 16))) 10 0 (σ.1 10 0 + nI 1)) 11 0 = (st2 (cpR (jdg (trR N s) 6 s s) 6 s 16) 24 s (N 24 s + nI 1)) 25 s
      rw [st2_at, if_neg (by omega), no 25 (by decide) (by decide) (by decide) (by decide)]
      exact d
    · show (st3 σ.2.1 6 0 (scL σ.2.2 (tpl σ.1 (mvc (fN G k) 16)))) 6 0 = scL (scT σ.2.2 (tpl σ.1 (mvc (fN G k) 16)) 16) ((st2 (va_up σ.1 1 (tpl σ.1 (mvc (fN G k) 16))) 10 0 (σ.1 10 0 + nI 1)) 1)
      rw [st3_at, if_pos ⟨rfl, rfl⟩, m1]
      exact scL_cg hF.sy (fun _ _ => rfl)
    · show (st3 σ.2.1 6 0 (scL σ.2.2 (tpl σ.1 (mvc (fN G k) 16)))) 7 0 = scL (scT σ.2.2 (tpl σ.1 (mvc (fN G k) 16)) 16) ((st2 (va_up σ.1 1 (tpl σ.1 (mvc (fN G k) 16))) 10 0 (σ.1 10 0 + nI 1)) 2)
      rw [st3_at, if_neg (by omega), m2]
      exact hj.2.trans (scL_cg hF.sy (fun _ _ => rfl))
    · show (st2 (va_up σ.1 1 (tpl σ.1 (mvc (fN G k) 16))) 10 0 (σ.1 10 0 + nI 1)) 10 0 = (st2 (cpR (jdg (trR N s) 6 s s) 6 s 16) 24 s (N 24 s + nI 1)) 24 s
      rw [st2_at, if_pos ⟨rfl, rfl⟩, st2_at, if_pos ⟨rfl, rfl⟩, h10]
    · show (st3 σ.2.1 6 0 (scL σ.2.2 (tpl σ.1 (mvc (fN G k) 16)))) 3 = σ.2.1 3
      simp [st3, va_up]
/-- the whole of a solve but its marks -/
def CF (G : Nat → Nat → Int32) (s k L t : Nat) (σ : SJM) (N : Nat → Nat → Int32) : Prop := CQ G s k σ N ∧ CJ σ ∧ CL s L (σ.2.1 3) N ∧ (σ.1 8 0 = nI t ∧ N 19 s = nI t) ∧ (σ.1 9 0 = N 20 s ∧ σ.1 10 0 = N 24 s) ∧ (σ.2.2 0 0 = nI k ∧ N 18 s = nI k) ∧ N 21 s = nI L
theorem step_ok {G N : Nat → Nat → Int32} {s k L t : Nat} {σ : SJM} (hs : s < 3) (hb : FB (fN G k)) (hL0 : 0 < L) (hL : L ≤ 8) (h : CF G s k L t σ N) (hm : MV (fN G k) σ.1) : CF G s k L (t + 1) (stepS (mvc (fN G k) 16) L t σ) (siR N s t L) := by
  obtain ⟨hq, hj, hc, ⟨h8, h19⟩, ⟨h9, h10⟩, ⟨h00, h18⟩, h21⟩ := h
  have hml := Nat.mod_lt t hL0
  -- the number
  have q1 : CQ G s k (turnX σ) (st2 N 20 s (N 20 s * nI 1103515245 + nI 12345)) := hq.mv (by simp [turnX, st2, va_up]) (by simp [turnX, st2, va_up]) (by show (st2 σ.1 9 0 (σ.1 9 0 * nI 1103515245 + nI 12345)) 11 0 = σ.1 11 0; rw [st2_at, if_neg (by omega)]) (FR.rf _) (fun r hr => by simp only [st2, va_up]; rw [if_neg (by omega)])
  have x1 : (turnX σ).1 9 0 = st2 N 20 s (N 20 s * nI 1103515245 + nI 12345) 20 s := by
    show (st2 σ.1 9 0 (σ.1 9 0 * nI 1103515245 + nI 12345)) 9 0 = _
    rw [st2_at, if_pos ⟨rfl, rfl⟩, st2_at, if_pos ⟨rfl, rfl⟩, h9]
  have o1 : ∀ r, r ≠ 20 → st2 N 20 s (N 20 s * nI 1103515245 + nI 12345) r = N r := fun r hr => by simp only [st2, va_up]; rw [if_neg hr]
  have w1 : (turnX σ).1 10 0 = st2 N 20 s (N 20 s * nI 1103515245 + nI 12345) 24 s := by
    rw [o1 24 (by decide), ← h10]; show (st2 σ.1 9 0 (σ.1 9 0 * nI 1103515245 + nI 12345)) 10 0 = σ.1 10 0; rw [st2_at, if_neg (by omega)]
  have m1 : MV (fN G k) (turnX σ).1 := fun i hi => by
    rw [← hm i hi]; show (st2 σ.1 9 0 (σ.1 9 0 * nI 1103515245 + nI 12345)) 5 i = σ.1 5 i; rw [st2_at, if_neg (by omega)]
  have j1 : CJ (turnX σ) := ⟨hj.1.trans (scL_cg (FR.rf _) (fun j _ => by simp [turnX, st2, va_up])), hj.2.trans (scL_cg (FR.rf _) (fun j _ => by simp [turnX, st2, va_up]))⟩
  obtain ⟨N1, eN1⟩ : ∃ z, z = st2 N 20 s (N 20 s * nI 1103515245 + nI 12345) := ⟨_, rfl⟩
  rw [← eN1] at q1 x1 o1 w1
  -- the try
  obtain ⟨σ2, eσ2⟩ : ∃ z : SJM, z = (if 0 < mvc (fN G k) 16 then tryS (mvc (fN G k) 16) (σ.2.1 3 (t % L)) (turnX σ) else turnX σ) := ⟨_, rfl⟩
  have key : CQ G s k σ2 (atR N1 s (8 * s + t % L)) ∧ CJ σ2 ∧ σ2.1 10 0 = atR N1 s (8 * s + t % L) 24 s ∧ σ2.2.1 3 = σ.2.1 3 ∧ σ2.1 9 0 = N1 20 s ∧ σ2.2.2 0 0 = nI k := by
    by_cases c : 0 < mvc (fN G k) 16
    · rw [if_pos c] at eσ2
      obtain ⟨a1, a2⟩ := hc (t % L) hml
      obtain ⟨b1, b2, b3, b4⟩ := try_ok (at_ := 8 * s + t % L) (late := σ.2.1 3 (t % L)) hs hb q1 j1 m1 c x1 w1 (by rw [o1 22 (by decide), o1 23 (by decide)]; exact a1) (by rw [o1 23 (by decide)]; exact a2)
      rw [eσ2]
      refine ⟨b1, b2, b3, b4, by rw [tryS_o _ _ _ _ (by decide) (by decide)]; exact x1, ?_⟩
      unfold tryS
      split
      · show scT σ.2.2 (tpl (turnX σ).1 (mvc (fN G k) 16)) 16 0 0 = _
        rw [scT_00]; exact h00
      · show scT σ.2.2 (tpl (turnX σ).1 (mvc (fN G k) 16)) 16 0 0 = _
        rw [scT_00]; exact h00
    · rw [if_neg c] at eσ2
      have ea : atR N1 s (8 * s + t % L) = N1 := by
        unfold atR
        rw [if_pos]
        rw [mvc_fr (q1.2.1.sy.tr q1.1) 16 (Nat.le_refl _)]; omega
      rw [eσ2, ea]
      exact ⟨q1, j1, w1, rfl, x1, h00⟩
  obtain ⟨q2, j2, w2, l2, x2, k2⟩ := key
  obtain ⟨N2, eN2⟩ : ∃ z, z = atR N1 s (8 * s + t % L) := ⟨_, rfl⟩
  have o2 : ∀ r, r ≠ 14 → r ≠ 15 → r ≠ 16 → r ≠ 24 → N2 r = N1 r := fun r a b c d => by rw [eN2, atR_o _ _ _ _ a b c d]
  rw [← eN2] at q2 w2
  obtain ⟨e1, p1, -, -⟩ := q2.sc hb
  -- late
  have q3 : CQ G s k (lateP (t % L) σ2) (latR N2 s (8 * s + t % L)) := q2.mv rfl rfl rfl (FR.rf _) (fun r hr => by unfold latR; simp only [st2, va_up]; rw [if_neg (by omega), if_neg (by omega), jdg_o _ _ _ _ _ (by omega) (by omega)])
  have j3 : CJ (lateP (t % L) σ2) := by
    refine ⟨?_, ?_⟩
    · show (st3 σ2.2.1 3 (t % L) (σ2.2.1 6 0)) 6 0 = scL σ2.2.2 (σ2.1 1)
      rw [st3_at, if_neg (by omega)]; exact j2.1
    · show (st3 σ2.2.1 3 (t % L) (σ2.2.1 6 0)) 7 0 = scL σ2.2.2 (σ2.1 2)
      rw [st3_at, if_neg (by omega)]; exact j2.2
  have c3 : CL s L ((lateP (t % L) σ2).2.1 3) (latR N2 s (8 * s + t % L)) := fun i hi => by
    have f0 : (lateP (t % L) σ2).2.1 3 i = if i = t % L then σ2.2.1 6 0 else σ.2.1 3 i := by
      show (st3 σ2.2.1 3 (t % L) (σ2.2.1 6 0)) 3 i = _
      rw [st3_at, l2]
      by_cases z : i = t % L
      · rw [if_pos ⟨rfl, z⟩, if_pos z]
      · rw [if_neg (fun y => z y.2), if_neg z]
    have f22 : latR N2 s (8 * s + t % L) 22 (8 * s + i) = if i = t % L then hdR N2 s s s 16 else N 22 (8 * s + i) := by
      unfold latR
      rw [st2_at, if_neg (by omega), st2_at, jdg_o _ _ _ _ _ (by decide) (by decide), o2 22 (by decide) (by decide) (by decide) (by decide), o1 22 (by decide)]
      by_cases z : i = t % L
      · rw [if_pos (by omega), if_pos z]
      · rw [if_neg (by omega), if_neg z]
    have f23 : latR N2 s (8 * s + t % L) 23 (8 * s + i) = if i = t % L then sfR N2 s s s 16 else N 23 (8 * s + i) := by
      unfold latR
      rw [st2_at, st2_at, if_neg (c := 23 = 22 ∧ _) (by omega), jdg_o _ _ _ _ _ (by decide) (by decide), o2 23 (by decide) (by decide) (by decide) (by decide), o1 23 (by decide)]
      by_cases z : i = t % L
      · rw [if_pos (by omega), if_pos z]
      · rw [if_neg (by omega), if_neg z]
    rw [f0, f22, f23]
    by_cases z : i = t % L
    · rw [if_pos z, if_pos z, if_pos z]
      exact ⟨j2.1.trans e1, p1⟩
    · rw [if_neg z, if_neg z, if_neg z]
      exact hc i hi
  have o3 : ∀ r, r ≠ 15 → r ≠ 16 → r ≠ 22 → r ≠ 23 → latR N2 s (8 * s + t % L) r = N2 r := fun r a b c d => by
    unfold latR; simp only [st2, va_up]; rw [if_neg d, if_neg c, jdg_o _ _ _ _ _ a b]
  obtain ⟨N3, eN3⟩ : ∃ z, z = latR N2 s (8 * s + t % L) := ⟨_, rfl⟩
  rw [← eN3] at q3 c3 o3
  -- the best
  obtain ⟨q4, j4, -, l4, g4⟩ := keep_ok hs hb q3 j3
  have eS : stepS (mvc (fN G k) 16) L t σ = ticS t (keepB (lateP (t % L) σ2)) := by unfold stepS; rw [eσ2]
  have eR : siR N s t L = st2 (kbR N3 s) 19 s (nI (t + 1)) := by unfold siR; rw [eN3, eN2, eN1]
  rw [eS, eR]
  have o4 : ∀ r, r ≠ 14 → r ≠ 15 → r ≠ 16 → r ≠ 25 → r ≠ 19 → st2 (kbR N3 s) 19 s (nI (t + 1)) r = N3 r := fun r a b c d e => by
    simp only [st2, va_up]; rw [if_neg e, kbR_o _ _ _ a b c d]
  have oT : ∀ r, r ≠ 8 → (ticS t (keepB (lateP (t % L) σ2))).1 r = (keepB (lateP (t % L) σ2)).1 r := fun r hr => by
    show (st2 (keepB (lateP (t % L) σ2)).1 8 0 (nI (t + 1))) r = _; simp only [st2, va_up]; rw [if_neg hr]
  refine ⟨q4.mv (oT 1 (by decide)) (oT 2 (by decide)) (by rw [oT 11 (by decide)]) (FR.rf _) (fun r hr => by simp only [st2, va_up]; rw [if_neg (by omega)]), ?_, ?_, ⟨?_, ?_⟩, ⟨?_, ?_⟩, ⟨?_, ?_⟩, ?_⟩
  · refine ⟨?_, ?_⟩
    · rw [oT 1 (by decide)]; exact j4.1
    · rw [oT 2 (by decide)]; exact j4.2
  · intro i hi
    have := c3 i hi
    rw [o4 22 (by decide) (by decide) (by decide) (by decide) (by decide), o4 23 (by decide) (by decide) (by decide) (by decide) (by decide)]
    show (keepB (lateP (t % L) σ2)).2.1 3 i = _ ∧ _
    rw [l4]; exact this
  · show (st2 (keepB (lateP (t % L) σ2)).1 8 0 (nI (t + 1))) 8 0 = nI (t + 1)
    rw [st2_at, if_pos ⟨rfl, rfl⟩]
  · rw [st2_at, if_pos ⟨rfl, rfl⟩]
  · rw [oT 9 (by decide), keepB_o _ _ (by decide) (by decide), o4 20 (by decide) (by decide) (by decide) (by decide) (by decide), o3 20 (by decide) (by decide) (by decide) (by decide), o2 20 (by decide) (by decide) (by decide) (by decide)]
    exact x2
  · rw [oT 10 (by decide), keepB_o _ _ (by decide) (by decide), o4 24 (by decide) (by decide) (by decide) (by decide) (by decide), o3 24 (by decide) (by decide) (by decide) (by decide)]
    exact w2
  · show (keepB (lateP (t % L) σ2)).2.2 0 0 = _
    rw [g4]; exact k2
  · rw [o4 18 (by decide) (by decide) (by decide) (by decide) (by decide), o3 18 (by decide) (by decide) (by decide) (by decide), o2 18 (by decide) (by decide) (by decide) (by decide), o1 18 (by decide)]
    exact h18
  · rw [o4 21 (by decide) (by decide) (by decide) (by decide) (by decide), o3 21 (by decide) (by decide) (by decide) (by decide), o2 21 (by decide) (by decide) (by decide) (by decide), o1 21 (by decide)]
    exact h21
theorem steps_ok {G N : Nat → Nat → Int32} {s k L t : Nat} {σ : SJM} (hs : s < 3) (hb : FB (fN G k)) (hL0 : 0 < L) (hL : L ≤ 8) (h : CF G s k L t σ N) (hm : MV (fN G k) σ.1) (n : Nat) : CF G s k L (t + n) (stepsS (mvc (fN G k) 16) L t n σ) (ssR s t L n N) := by
  induction n with
  | zero => exact h
  | succ n ih => exact step_ok hs hb hL0 hL ih (fun i hi => by rw [stepsS_5]; exact hm i hi)
