/-! what the calls do to the relation: changes, solves, marks, going back -/
theorem stepF_1 {G F : Nat → Nat → Int32} {i k w : Nat} (hk : k < 8) (ek : G 0 i = nI k) (ew : (G 1 i).toNatClampNeg = w) : stepF G i F 1 0 = if k = 0 then nI (w + 1) else F 1 0 := by
  have hc : k = 0 ∨ k = 1 ∨ k = 2 ∨ k = 3 ∨ k = 4 ∨ k = 5 ∨ k = 6 ∨ k = 7 := by omega
  rcases hc with rfl | rfl | rfl | rfl | rfl | rfl | rfl | rfl
  · rw [sF0 ek ew]; simp [traitF, st2_at]
  · rw [sF1 ek ew]; simp [leaveI, st2_at]
  · rw [sF2 ek ew]; simp [traitF, st2_at]
  · rw [sF3 ek ew]; simp [st2_at]
  · rw [sF4 ek ew]; simp [partF, st2_at]
  · rw [sF5 ek ew]; simp [unpartF, st2_at]
  · rw [sF6 ek ew]; simp [st2_at]
  · rw [sF7 ek ew]; simp [st2_at]
theorem addL_same {G G2 : Nat → Nat → Int32} {n : Nat} (a b c d e : Int32) {k i : Nat} (hk : k < 5) (h : i < n → G k i = G2 k i) (hi : i ≤ n) : addL G n a b c d e k i = addL G2 n a b c d e k i := by
  by_cases z : i = n
  · subst z
    obtain ⟨x0, x1, x2, x3, x4⟩ := addL_n G i a b c d e
    obtain ⟨y0, y1, y2, y3, y4⟩ := addL_n G2 i a b c d e
    have hc : k = 0 ∨ k = 1 ∨ k = 2 ∨ k = 3 ∨ k = 4 := by omega
    rcases hc with rfl | rfl | rfl | rfl | rfl
    · rw [x0, y0]
    · rw [x1, y1]
    · rw [x2, y2]
    · rw [x3, y3]
    · rw [x4, y4]
  · rw [addL_i _ _ _ _ _ _ _ _ _ hk z, addL_i _ _ _ _ _ _ _ _ _ hk z]; exact h (by omega)
theorem enR_o (N : Nat → Nat → Int32) (n : Nat) (a b c d e : Int32) (k i : Nat) (hk : 6 ≤ k) : enR N n a b c d e k i = N k i := by
  unfold enR
  rw [st2_at, if_neg (by omega), st2_at, if_neg (by omega), st2_at, if_neg (by omega), st2_at, if_neg (by omega), st2_at, if_neg (by omega), st2_at, if_neg (by omega)]
theorem Rel.ent {AD : Nat → Nat → Nat} {TT : Nat → Nat → Nat → Int32} {JJ : Nat → Nat → Nat → Int64} {OP : Nat → Nat → Option Nat} {LL : Nat → Nat} {ns T cnt cw ko : Nat} (h : Rel AD TT JJ OP LL ns T cnt cw ko) (hn : cnt < 120) {a b c d e : Int32} (hv : wfV a b c d e) (hlk : a = nI 6 → ¬ TT 2 2 b.toNatClampNeg = 0) (cw2 : Nat) (hcw2 : cw2 ≤ 16) (N2 : Nat → Nat → Int32) (hN2 : ∀ k i, k ≠ 13 → N2 k i = apR (enR (TT 4) cnt a b c d e) 4 cnt k i) (h13 : N2 13 0 = nI cw2) (hM1 : stepF (addL (TT 1) cnt a b c d e) cnt (TT 2) 1 0 = nI cw2) (hth : ∀ j, j < 16 → ¬ stepF (addL (TT 1) cnt a b c d e) cnt (TT 2) 2 j = 0 → j < cw2) : Rel AD (va_up (va_up (va_up TT 1 (addL (TT 1) cnt a b c d e)) 2 (st2 (stepF (addL (TT 1) cnt a b c d e) cnt (TT 2)) 0 0 (nI (cnt + 1)))) 4 N2) JJ OP LL ns T (cnt + 1) cw2 ko := by
  obtain ⟨⟨a1, a2, a3, a4⟩, ⟨b1, b2, b3⟩, ⟨c1, c2, c3, c4⟩, ⟨d1, d2, d3⟩, ⟨e1, e2, e3⟩, h6⟩ := h
  obtain ⟨G2, eG⟩ : ∃ z, z = addL (TT 1) cnt a b c d e := ⟨_, rfl⟩
  rw [← eG] at hM1 hth
  obtain ⟨TU, eU⟩ : ∃ z, z = va_up (va_up (va_up TT 1 (addL (TT 1) cnt a b c d e)) 2 (st2 (stepF (addL (TT 1) cnt a b c d e) cnt (TT 2)) 0 0 (nI (cnt + 1)))) 4 N2 := ⟨_, rfl⟩
  have u4 : TU 4 = N2 := by rw [eU]; exact if_pos rfl
  have u2 : TU 2 = st2 (stepF G2 cnt (TT 2)) 0 0 (nI (cnt + 1)) := by rw [eU, eG]; simp [va_up]
  have u1 : TU 1 = G2 := by rw [eU, eG]; simp [va_up]
  have uo : ∀ i, i ≠ 4 → i ≠ 1 → i ≠ 2 → TU i = TT i := fun i x y z => by rw [eU]; simp only [va_up]; rw [if_neg x, if_neg z, if_neg y]
  have gi : ∀ i, i < cnt → ∀ k, k < 5 → G2 k i = TT 1 k i := fun i hi k hk => by rw [eG, addL_i _ _ _ _ _ _ _ _ _ hk (by omega)]
  have fq : ∀ q, q ≤ cnt → fN G2 q = fN (TT 1) q := fun q hq => fN_cg (fun i hi k hk => gi i (by omega) k hk)
  obtain ⟨g0, g1, -, -, -⟩ := addL_n (TT 1) cnt a b c d e
  rw [← eG] at g0 g1
  have wnew : wfE G2 cnt := by rw [eG]; exact wfE_new hv
  have wall : ∀ i, i < cnt + 1 → wfE G2 i := by rw [eG]; exact wfE_all hv a4.2.1
  have lg : ∀ i, i < cnt + 1 → ∀ k, k < 5 → G2 k i = N2 (k + 1) i := fun i hi k hk => by
    rw [hN2 (k + 1) i (by omega), apR_o _ _ _ _ (Or.inl (by omega))]
    have := congrFun (logR_en (TT 4) cnt a b c d e k hk) i
    rw [show enR (TT 4) cnt a b c d e (k + 1) i = addL (logR (TT 4)) cnt a b c d e k i from this, eG]
    exact addL_same a b c d e hk (fun z => a4.1 i z k hk) (by omega)
  have hsl : EF (slc 4 N2) (stepF G2 cnt (slc 4 (TT 4))) := by
    refine (slc_ef (N := apR (enR (TT 4) cnt a b c d e) 4 cnt) (fun k i z => hN2 k i (by unfold wrF at z; omega))).tr ?_
    have h1 := apR_slc (f := 4) (N := enR (TT 4) cnt a b c d e) (i := cnt) (wfE_en hv)
    rw [stepF_cg (G := logR (enR (TT 4) cnt a b c d e)) (G2 := G2) (fun k hk => by
      rw [lg cnt (by omega) k hk, hN2 (k + 1) cnt (by omega), apR_o _ _ _ _ (Or.inl (by omega))]; rfl)] at h1
    have h3 : ∀ k, 2 ≤ k → slc 4 (enR (TT 4) cnt a b c d e) k = slc 4 (TT 4) k := fun k hk => by
      funext j
      unfold slc
      split
      · exact enR_o _ _ _ _ _ _ _ _ _ (by decide)
      · exact enR_o _ _ _ _ _ _ _ _ _ (by omega)
    refine h1.tr (fun k j z => ?_)
    obtain ⟨k0, w, hk8, hw, ek, ew, -, h45, -, -⟩ := wfE_k wnew
    have hc : k0 = 0 ∨ k0 = 1 ∨ k0 = 2 ∨ k0 = 3 ∨ k0 = 4 ∨ k0 = 5 ∨ k0 = 6 ∨ k0 = 7 := by omega
    have hz : 2 ≤ k := by omega
    rcases hc with rfl | rfl | rfl | rfl | rfl | rfl | rfl | rfl
    · rw [sF0 ek ew, sF0 ek ew]; simp only [traitF, st2_at]; rw [h3 k hz]
    · rw [sF1 ek ew, sF1 ek ew]; simp only [leaveI, st2_at]; rw [h3 k hz]
    · rw [sF2 ek ew, sF2 ek ew]; simp only [traitF, st2_at]; rw [h3 k hz]
    · rw [sF3 ek ew, sF3 ek ew]; simp only [st2_at]; rw [h3 k hz]
    · rw [sF4 ek ew, sF4 ek ew]; simp only [partF, st2_at]; rw [h3 k hz, h3 7 (by decide)]
    · rw [sF5 ek ew, sF5 ek ew]; simp only [unpartF, st2_at]; rw [h3 k hz, h3 7 (by decide)]
    · rw [sF6 ek ew, sF6 ek ew]; simp only [st2_at]; rw [h3 k hz]
    · rw [sF7 ek ew, sF7 ek ew]; simp only [st2_at]; rw [h3 k hz]
  rw [← eU]
  unfold Rel
  rw [u4, u1, u2, uo 0 (by decide) (by decide) (by decide), uo 3 (by decide) (by decide) (by decide)]
  have hF : FR (st2 (stepF G2 cnt (TT 2)) 0 0 (nI (cnt + 1))) (stepF G2 cnt (TT 2)) := (EF.one _ (by omega)).fr
  refine ⟨⟨by omega, ?_, ?_, lg, wall, fun i hi z => ?_⟩, ⟨?_, ?_, ?_⟩, ⟨?_, h13, hcw2, fun j hj z => hth j hj ?_⟩, ⟨d1, by omega, by rw [fq ko d2]; exact d3⟩, ⟨e1, e2, ?_⟩, fun s hs => ?_⟩
  · rw [eG]; simp [addL, st2_at]
  · rw [hN2 0 0 (by decide), apR_o _ _ _ _ (Or.inl (by decide))]; simp [enR, st2_at]
  · by_cases ei : i = cnt
    · subst ei
      rw [g0] at z
      rw [g1, fq i (Nat.le_refl _)]
      obtain ⟨k0, w, hk8, hw, ek, ew, -⟩ := wfE_k wnew
      rw [g1] at ew
      have h1 := hlk z
      rw [ew] at h1 ⊢
      rw [← (b2.1 w hw).1]; exact h1
    · rw [fq i (by omega), gi i (by omega) 1 (by decide)]
      rw [gi i (by omega) 0 (by decide)] at z
      exact a4.2.2 i (by omega) z
  · rw [st2_at, if_pos ⟨rfl, rfl⟩]
  · show FR _ (stepF G2 cnt (fN G2 cnt))
    rw [fq cnt (Nat.le_refl _)]
    exact hF.tr (stepF_FR wnew b2)
  · exact (hF.tr (stepF_FR wnew b3)).tr hsl.fr.sy
  · rw [st2_at, if_neg (by omega)]; exact hM1
  · rw [st2_at, if_neg (by omega)] at z; exact z
  · rw [hN2 17 0 (by decide), apR_o _ _ _ _ (Or.inr (by decide)), enR_o _ _ _ _ _ _ _ _ _ (by decide)]; exact e3
  · refine ((h6 s hs).cg (by omega) (Nat.le_refl _) fq (fun r i z => ?_)).st rfl (fun _ _ => rfl) (uo _ (by omega) (by omega) (by omega)) (uo _ (by omega) (by omega) (by omega)) (fun k hk => uo _ (by omega) (by omega) (by omega)) rfl (fun _ _ => rfl) rfl rfl rfl
    have r6 : 6 ≤ r ∧ r ≠ 13 ∧ ¬ wrF 4 r i := by unfold creg mreg wrF at z; unfold wrF; omega
    rw [hN2 r i r6.2.1, apR_keep (wfE_en hv) r i r6.2.2, enR_o _ _ _ _ _ _ _ _ _ r6.1]
theorem Rel.enter {AD : Nat → Nat → Nat} {TT : Nat → Nat → Nat → Int32} {JJ : Nat → Nat → Nat → Int64} {OP : Nat → Nat → Option Nat} {LL : Nat → Nat} {ns T cnt cw ko : Nat} (h : Rel AD TT JJ OP LL ns T cnt cw ko) (hn : cnt < 120) {a b c d e : Int32} (hv : wfV a b c d e) (h0 : ¬ a = nI 0) (hlk : a = nI 6 → ¬ TT 2 2 b.toNatClampNeg = 0) : Rel AD (va_up (va_up (va_up TT 1 (addL (TT 1) cnt a b c d e)) 2 (st2 (stepF (addL (TT 1) cnt a b c d e) cnt (TT 2)) 0 0 (nI (cnt + 1)))) 4 (apR (enR (TT 4) cnt a b c d e) 4 cnt)) JJ OP LL ns T (cnt + 1) cw ko := by
  have h2 := h
  obtain ⟨-, -, ⟨c1, c2, c3, c4⟩, -, -, -⟩ := h2
  obtain ⟨g0, g1, -, -, -⟩ := addL_n (TT 1) cnt a b c d e
  obtain ⟨k0, w, hk8, hw, ek, ew, -⟩ := wfE_k (wfE_new (ML := TT 1) (n := cnt) hv)
  have hk0 : ¬ k0 = 0 := fun z => h0 (by rw [← g0, ek, z])
  refine h.ent hn hv hlk cw c3 _ (fun _ _ _ => rfl) ?_ ?_ (fun j hj z => c4 j hj ?_)
  · rw [apR_o _ _ _ _ (Or.inr (by decide)), enR_o _ _ _ _ _ _ _ _ _ (by decide)]; exact c2
  · rw [stepF_1 hk8 ek ew, if_neg hk0]; exact c1
  · rw [stepF_2 hk8 ek ew, if_neg (fun y => hk0 y.1)] at z
    by_cases y : k0 = 1 ∧ j = w
    · rw [if_pos y] at z; exact absurd nI_0 z
    · rw [if_neg y] at z; exact z
theorem Rel.come {AD : Nat → Nat → Nat} {TT : Nat → Nat → Nat → Int32} {JJ : Nat → Nat → Nat → Int64} {OP : Nat → Nat → Option Nat} {LL : Nat → Nat} {ns T cnt cw ko : Nat} (h : Rel AD TT JJ OP LL ns T cnt cw ko) (hn : cnt < 120) (hw16 : cw < 16) {c d e : Int32} (hv : trOk c d e) : Rel AD (va_up (va_up (va_up TT 1 (addL (TT 1) cnt (nI 0) (nI cw) c d e)) 2 (st2 (stepF (addL (TT 1) cnt (nI 0) (nI cw) c d e) cnt (TT 2)) 0 0 (nI (cnt + 1)))) 4 (st2 (apR (enR (TT 4) cnt (nI 0) (nI cw) c d e) 4 cnt) 13 0 (nI (cw + 1)))) JJ OP LL ns T (cnt + 1) (cw + 1) ko := by
  have h2 := h
  obtain ⟨-, -, ⟨c1, c2, c3, c4⟩, -, -, -⟩ := h2
  obtain ⟨g0, g1, -, -, -⟩ := addL_n (TT 1) cnt (nI 0) (nI cw) c d e
  have hwv : wfV (nI 0) (nI cw) c d e := wf_come hw16 hv
  have ew : (addL (TT 1) cnt (nI 0) (nI cw) c d e 1 cnt).toNatClampNeg = cw := by rw [g1]; exact nI_clamp (by omega)
  refine h.ent hn hwv (fun z => absurd z (by decide +kernel)) (cw + 1) (by omega) _ (fun k i z => by rw [st2_at, if_neg (fun y => z y.1)]) ?_ ?_ (fun j hj z => ?_)
  · rw [st2_at, if_pos ⟨rfl, rfl⟩]
  · rw [stepF_1 (by decide) g0 ew, if_pos rfl]
  · rw [stepF_2 (by decide) g0 ew] at z
    by_cases y : j = cw
    · omega
    · rw [if_neg (fun x => y x.2), if_neg (fun x => y x.2)] at z
      have := c4 j hj z
      omega
/-! catching up, the whole of a solve -/
theorem catchS_00 (G : Nat → Nat → Int32) (k n L : Nat) (σ : SJM) (h : σ.2.2 0 0 = nI k) : (catchS G k n L σ).2.2 0 0 = nI n := by
  have h1 : (anew (itS G k (n - k) σ.1, σ.2.1, becF G k n σ.2.2)).2.2 0 0 = nI n := by rw [anew_00]; exact becF_00 G k n _ h
  obtain ⟨τ, eτ⟩ : ∃ z, z = anew (itS G k (n - k) σ.1, σ.2.1, becF G k n σ.2.2) := ⟨_, rfl⟩
  have e : catchS G k n L σ = lateA L (keepB τ) := by rw [eτ]; rfl
  rw [← eτ] at h1
  rw [e]
  show (keepB τ).2.2 0 0 = _
  unfold keepB
  split
  · exact h1
  · exact h1
theorem CF.cat {G N : Nat → Nat → Int32} {s k n L t : Nat} {σ : SJM} (hs : s < 3) (hkn : k < n) (hl : LG G N n) (h : CF G s k L t σ N) : CF G s n L t (catchS G k n L σ) (catR N s k n L) := by
  obtain ⟨hq, hj, hc, ⟨h8, h19⟩, ⟨h9, h10⟩, ⟨h00, h18⟩, h21⟩ := h
  obtain ⟨q2, j2, c2⟩ := cat_ok (L := L) hs hkn hl hq
  have o : ∀ r, (r = 19 ∨ r = 20 ∨ r = 21 ∨ r = 24) → catR N s k n L r = N r := fun r hr => catR_o _ _ _ _ _ _ (by omega) (by omega) (by omega) (by omega) (by omega) (by omega) (by omega) (by omega)
  refine ⟨q2, j2, c2, ⟨?_, ?_⟩, ⟨?_, ?_⟩, ⟨catchS_00 G k n L σ h00, ?_⟩, ?_⟩
  · rw [catchS_o _ _ _ _ _ _ (by decide) (by decide) (by decide)]; exact h8
  · rw [o 19 (by omega)]; exact h19
  · rw [catchS_o _ _ _ _ _ _ (by decide) (by decide) (by decide), o 20 (by omega)]; exact h9
  · rw [catchS_o _ _ _ _ _ _ (by decide) (by decide) (by decide), o 24 (by omega)]; exact h10
  · unfold catR flR
    rw [flI_o _ _ _ _ _ _ (by decide) (by decide), jdg_o _ _ _ _ _ (by decide) (by decide), kbR_o _ _ _ (by decide) (by decide) (by decide) (by decide), cuR_18 _ _ _ _ h18, show k + (n - k) = n by omega]
  · rw [o 21 (by omega)]; exact h21
/-- what leaves a solve's marks -/
theorem mr_of {s : Nat} {N N2 : Nat → Nat → Int32} (h14 : H14 N N2) (ho : ∀ r, (r = 26 ∨ r = 27 ∨ r = 28 ∨ r = 29) → N2 r = N r) : ∀ r i, mreg s r i → N2 r i = N r i := fun r i z => by
  unfold mreg at z
  rcases z with z | z | z
  · rw [z.1]; exact h14 i (by omega)
  · rw [ho r (by omega)]
  · rw [ho r (by omega)]
theorem mr_cat {s k n L : Nat} {N : Nat → Nat → Int32} (hs : s < 3) (hkn : k ≤ n) (hw : ∀ i, i < n → wfE (logR N) i) : ∀ r i, mreg s r i → catR N s k n L r i = N r i := mr_of (H14.cat hs hkn hw) (fun r hr => catR_o _ _ _ _ _ _ (by omega) (by omega) (by omega) (by omega) (by omega) (by omega) (by omega) (by omega))
theorem mr_ss {s t L n : Nat} {N : Nat → Nat → Int32} (hs : s < 3) : ∀ r i, mreg s r i → ssR s t L n N r i = N r i := mr_of (H14.ss N hs n) (fun r hr => ssR_o _ _ _ _ _ _ (by omega) (by omega) (by omega) (by omega) (by omega) (by omega) (by omega) (by omega) (by omega))
