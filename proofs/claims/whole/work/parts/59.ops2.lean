/-! a mark; going back; a new solve -/
theorem Rel.mark {AD : Nat → Nat → Nat} {TT : Nat → Nat → Nat → Int32} {JJ : Nat → Nat → Nat → Int64} {OP : Nat → Nat → Option Nat} {LL : Nat → Nat} {ns T cnt cw ko : Nat} (h : Rel AD TT JJ OP LL ns T cnt cw ko) {s k : Nat} (hs : s < ns) (hk : k < 2) (AD2 : Nat → Nat → Nat) (OP2 : Nat → Nat → Option Nat) (MM : Nat → Nat → Int32) (JM : Nat → Nat → Int64)
    (hA : ∀ i, i ≠ 30 + 2 * s + k → AD2 i = AD i) (hO0 : OP2 0 = OP 0) (hO : ∀ i, i ≠ 10 + s → OP2 i = OP i) (hOk : ∀ q, q ≠ k → OP2 (10 + s) q = OP (10 + s) q) (hOs : OP2 (10 + s) k = some (AD2 (30 + 2 * s + k) 100))
    (m0 : MM 0 0 = TT (20 + s) 0 0) (m1 : ∀ j, j < 16 → MM 1 j = TT (10 + s) 1 j) (m2 : ∀ j, j < 16 → MM 2 j = TT (10 + s) 2 j) (m3 : ∀ i, i < LL s → JM 3 i = JJ (10 + s) 3 i) :
    Rel AD2 (va_up (va_up TT (30 + 2 * s + k) MM) 4 (markR (TT 4) s (2 * s + k))) (va_up JJ (30 + 2 * s + k) JM) OP2 LL ns T cnt cw ko := by
  obtain ⟨⟨a1, a2, a3, a4⟩, ⟨b1, b2, b3⟩, ⟨c1, c2, c3, c4⟩, ⟨d1, d2, d3⟩, ⟨e1, e2, e3⟩, h6⟩ := h
  obtain ⟨TU, eU⟩ : ∃ z, z = va_up (va_up TT (30 + 2 * s + k) MM) 4 (markR (TT 4) s (2 * s + k)) := ⟨_, rfl⟩
  obtain ⟨N, eN⟩ : ∃ z, z = TT 4 := ⟨_, rfl⟩
  obtain ⟨N2, eN2⟩ : ∃ z, z = markR (TT 4) s (2 * s + k) := ⟨_, rfl⟩
  have u4 : TU 4 = N2 := by rw [eU, eN2]; exact if_pos rfl
  have um : TU (30 + 2 * s + k) = MM := by rw [eU]; simp only [va_up]; rw [if_neg (by omega), if_pos trivial]
  have uo : ∀ i, i ≠ 4 → i ≠ 30 + 2 * s + k → TU i = TT i := fun i x y => by rw [eU]; simp only [va_up]; rw [if_neg x, if_neg y]
  have jm : va_up JJ (30 + 2 * s + k) JM (30 + 2 * s + k) = JM := if_pos rfl
  have jo : ∀ i, i ≠ 30 + 2 * s + k → va_up JJ (30 + 2 * s + k) JM i = JJ i := fun i hi => if_neg hi
  have hs3 : s < 3 := by omega
  have hsk : SK s N N2 := by rw [eN, eN2]; exact SK.mark _ hk
  -- the cells of the mark
  have at_ : ∀ r i, N2 r i = if r = 28 ∧ 8 * (2 * s + k) ≤ i ∧ i < 8 * (2 * s + k) + 8 then N 22 (8 * s + (i - 8 * (2 * s + k))) else if r = 29 ∧ 8 * (2 * s + k) ≤ i ∧ i < 8 * (2 * s + k) + 8 then N 23 (8 * s + (i - 8 * (2 * s + k))) else if r = 14 ∧ 16 * (8 + 2 * (2 * s + k)) ≤ i ∧ i < 16 * (8 + 2 * (2 * s + k)) + 16 then N 14 (16 * (3 + s) + (i - 16 * (8 + 2 * (2 * s + k)))) else if r = 14 ∧ 16 * (7 + 2 * (2 * s + k)) ≤ i ∧ i < 16 * (7 + 2 * (2 * s + k)) + 16 then N 14 (16 * s + (i - 16 * (7 + 2 * (2 * s + k)))) else if r = 27 ∧ i = 2 * s + k then N 18 s else if r = 26 ∧ i = 2 * s + k then nI 1 else N r i := by
    intro r i
    have o1 : ∀ x, x ≠ 14 → x ≠ 26 → x ≠ 27 → ∀ y, cpR (cpR (st2 (st2 N 26 (2 * s + k) (nI 1)) 27 (2 * s + k) (N 18 s)) s (7 + 2 * (2 * s + k)) 16) (3 + s) (8 + 2 * (2 * s + k)) 16 x y = N x y := fun x h1 h2 h3 y => by
      rw [cpR_o _ _ _ _ _ h1, cpR_o _ _ _ _ _ h1, st2_at, if_neg (fun z => h3 z.1), st2_at, if_neg (fun z => h2 z.1)]
    rw [eN2, ← eN]
    unfold markR mkL
    by_cases q1 : r = 28 ∧ 8 * (2 * s + k) ≤ i ∧ i < 8 * (2 * s + k) + 8
    · rw [if_pos q1, if_pos q1, o1 22 (by decide) (by decide) (by decide)]
    · rw [if_neg q1, if_neg q1]
      by_cases q2 : r = 29 ∧ 8 * (2 * s + k) ≤ i ∧ i < 8 * (2 * s + k) + 8
      · rw [if_pos q2, if_pos q2, o1 23 (by decide) (by decide) (by decide)]
      · rw [if_neg q2, if_neg q2]
        unfold cpR
        by_cases q3 : r = 14 ∧ 16 * (8 + 2 * (2 * s + k)) ≤ i ∧ i < 16 * (8 + 2 * (2 * s + k)) + 16
        · rw [if_pos q3, if_pos q3, if_neg (by omega), st2_at, if_neg (by omega), st2_at, if_neg (by omega)]
        · rw [if_neg q3, if_neg q3]
          by_cases q4 : r = 14 ∧ 16 * (7 + 2 * (2 * s + k)) ≤ i ∧ i < 16 * (7 + 2 * (2 * s + k)) + 16
          · rw [if_pos q4, if_pos q4, st2_at, if_neg (by omega), st2_at, if_neg (by omega)]
          · rw [if_neg q4, if_neg q4, st2_at, st2_at]
  have same : ∀ r i, (r = 14 → i < 16 * (7 + 2 * (2 * s + k)) ∨ 16 * (9 + 2 * (2 * s + k)) ≤ i) → ((r = 28 ∨ r = 29) → i < 8 * (2 * s + k) ∨ 8 * (2 * s + k) + 8 ≤ i) → ((r = 26 ∨ r = 27) → i ≠ 2 * s + k) → N2 r i = N r i := fun r i x y z => by
    rw [at_, if_neg (by omega), if_neg (by omega), if_neg (by omega), if_neg (by omega), if_neg (by omega), if_neg (by omega)]
  rw [← eU]
  unfold Rel
  rw [u4, uo 0 (by omega) (by omega), uo 1 (by omega) (by omega), uo 2 (by omega) (by omega), uo 3 (by omega) (by omega)]
  rw [← eN] at a3 a4 b3 c2 e3
  have so : ∀ r i, (r < 6 ∨ r = 13 ∨ r = 17 ∨ wrF 3 r i ∨ wrF 4 r i) → N2 r i = N r i := fun r i z => hsk r i (own_ap hs3 z)
  refine ⟨⟨a1, a2, by rw [so 0 0 (by omega)]; exact a3, a4.cg (fun r hr => funext fun i => so r i (Or.inl hr))⟩, ⟨b1, b2, b3.tr (slc_ef (fun r i z => so r i (Or.inr (Or.inr (Or.inr (Or.inr z)))))).fr.sy⟩, ⟨c1, by rw [so 13 0 (by omega)]; exact c2, c3, c4⟩, ⟨d1, d2, d3⟩, ⟨e1, e2, by rw [so 17 0 (by omega)]; exact e3⟩, fun v hv => ?_⟩
  by_cases e : v = s
  · subst e
    obtain ⟨q1, q2, ⟨kn, t, hkn, ht, hf⟩, q4⟩ := h6 v hs
    rw [← eN] at hf q4
    have hf2 := hf
    obtain ⟨⟨f1, f2, f3, f4⟩, fj, fl_, ⟨f8, f19⟩, ⟨f9, f10⟩, ⟨f00, f18⟩, f21⟩ := hf2
    unfold SRel
    rw [hO0, hA (10 + v) (by omega), uo (10 + v) (by omega) (by omega), uo (20 + v) (by omega) (by omega), jo (10 + v) (by omega)]
    refine ⟨q1, q2, ⟨kn, t, hkn, ht, hf.cg q2.2 rfl (fun r i z => same r i (by unfold creg wrF at z; omega) (by unfold creg wrF at z; omega) (by unfold creg wrF at z; omega))⟩, fun k2 hk2 => ?_⟩
    by_cases ek : k2 = k
    · subst ek
      rw [hOs, um, jm]
      refine Or.inr ⟨rfl, ?_, kn, hkn, ?_, ?_, fun j hj => ?_, fun i hi => ?_⟩
      · rw [at_, if_neg (by omega), if_neg (by omega), if_neg (by omega), if_neg (by omega), if_neg (by omega), if_pos ⟨rfl, rfl⟩]; decide +kernel
      · rw [m0]; exact f00
      · rw [at_, if_neg (by omega), if_neg (by omega), if_neg (by omega), if_neg (by omega), if_pos ⟨rfl, rfl⟩]; exact f18
      · obtain ⟨p1, p2, p3, p4⟩ := f3 j hj
        have t6 : N 6 (16 * v + j) = fN (TT 1) kn 2 j := ((f2.sy.tr f1).1 j hj).1
        have n7 : N2 14 (16 * (7 + 2 * (2 * v + k2)) + j) = N 14 (16 * v + j) := by
          rw [at_, if_neg (by omega), if_neg (by omega), if_neg (by omega), if_pos (by omega)]; congr 1; omega
        have n8 : N2 14 (16 * (8 + 2 * (2 * v + k2)) + j) = N 14 (16 * (3 + v) + j) := by
          rw [at_, if_neg (by omega), if_neg (by omega), if_pos (by omega)]; congr 1; omega
        unfold rmO at p1 p2
        rw [t6] at p1 p2
        rw [m1 j hj, m2 j hj, n7, n8]
        exact ⟨p1, p2, p3, p4⟩
      · have n28 : N2 28 (8 * (2 * v + k2) + i) = N 22 (8 * v + i) := by
          rw [at_, if_pos (by omega)]; congr 1; omega
        have n29 : N2 29 (8 * (2 * v + k2) + i) = N 23 (8 * v + i) := by
          rw [at_, if_neg (by omega), if_pos (by omega)]; congr 1; omega
        rw [n28, n29, m3 i hi]
        exact fl_ i hi
    · rw [hOk k2 ek, uo (30 + 2 * v + k2) (by omega) (by omega), jo (30 + 2 * v + k2) (by omega), hA (30 + 2 * v + k2) (by omega)]
      exact (q4 k2 hk2).cg hk2 q2.2 (Nat.le_refl _) (fun _ _ => rfl) (fun r i _ z1 z2 z3 => same r i (by omega) (by omega) (by omega))
  · have g := h6 v hv
    rw [← eN] at g
    exact (g.cg (Nat.le_refl _) (Nat.le_refl _) (fun _ _ => rfl) (fun r i z => hsk r i (z.elim (creg_ap hs3 (by omega) (fun y => e y.symm)) (mreg_ap hs3 (by omega) (fun y => e y.symm))))).st (hA _ (by omega)) (fun k2 hk2 => hA _ (by omega)) (uo _ (by omega) (by omega)) (uo _ (by omega) (by omega)) (fun k2 hk2 => uo _ (by omega) (by omega)) (jo _ (by omega)) (fun k2 hk2 => jo _ (by omega)) (by rw [hO0]) (hO _ (by omega)) rfl
/-! going back -/
theorem back_ok {G N : Nat → Nat → Int32} {cnt s k kn n L t : Nat} {MM : Nat → Nat → Int32} {JM : Nat → Nat → Int64} {σ : SJM} (hs : s < 3) (hk2 : k < 2) (hL : L ≤ 8) (hl : LG G N cnt) (hkn : kn ≤ cnt) (hn : n ≤ cnt) (h : CF G s kn L t σ N) (hp : MP G n (7 + 2 * (2 * s + k)) (8 + 2 * (2 * s + k)) MM N) (hj : MJ (2 * s + k) L (JM 3) N) : CF G s n L t (backS G kn n L MM JM σ) (backR N s (2 * s + k) n) := by
  obtain ⟨⟨a, b, c, d⟩, j0, l0, ⟨h8, h19⟩, ⟨h9, h10⟩, ⟨h00, h18⟩, h21⟩ := h
  obtain ⟨K, eK⟩ : ∃ z, z = mkR (st2 N 18 s (nI n)) s n := ⟨_, rfl⟩
  obtain ⟨N2, eN2⟩ : ∃ z, z = backR N s (2 * s + k) n := ⟨_, rfl⟩
  have lc : ∀ i, ∀ q, q < 5 → logR N q i = logR (st2 N 18 s (nI n)) q i := fun i => logR_cg (fun q hq => by funext j; rw [st2_at, if_neg (by omega)]) i
  have hw : ∀ i, i < n → wfE (logR (st2 N 18 s (nI n))) i := fun i hi => wfE_cg (lc i) (hl.wf i (by omega))
  have hK : FR (slc s K) (fN G n) := by
    rw [eK]
    have h1 := mkR_FR (N := st2 N 18 s (nI n)) s n hw
    rw [fN_cg (G2 := G) (fun i hi q hq => ((lc i q hq).symm.trans (hl.1 i (by omega) q hq).symm))] at h1
    exact h1
  have ko : ∀ r, (r < 6 ∨ 12 < r) → r ≠ 18 → K r = N r := fun r x y => by
    rw [eK, mkR_o _ _ _ _ x]; simp only [st2, va_up]; rw [if_neg y]
  have k18 : K 18 s = nI n := by rw [eK, mkR_o _ _ _ _ (Or.inr (by decide)), st2_at, if_pos ⟨rfl, rfl⟩]
  have at_ : ∀ r i, N2 r i = if r = 22 ∧ 8 * s ≤ i ∧ i < 8 * s + 8 then N 28 (8 * (2 * s + k) + (i - 8 * s)) else if r = 23 ∧ 8 * s ≤ i ∧ i < 8 * s + 8 then N 29 (8 * (2 * s + k) + (i - 8 * s)) else if r = 14 ∧ 16 * (3 + s) ≤ i ∧ i < 16 * (3 + s) + 16 then N 14 (16 * (8 + 2 * (2 * s + k)) + (i - 16 * (3 + s))) else if r = 14 ∧ 16 * s ≤ i ∧ i < 16 * s + 16 then N 14 (16 * (7 + 2 * (2 * s + k)) + (i - 16 * s)) else K r i := by
    intro r i
    rw [eN2]
    unfold backR bkL
    rw [← eK]
    have o1 : ∀ x, x ≠ 14 → cpR (cpR K (7 + 2 * (2 * s + k)) s 16) (8 + 2 * (2 * s + k)) (3 + s) 16 x = K x := fun x h1 => by rw [cpR_o _ _ _ _ _ h1, cpR_o _ _ _ _ _ h1]
    by_cases q1 : r = 22 ∧ 8 * s ≤ i ∧ i < 8 * s + 8
    · rw [if_pos q1, if_pos q1, o1 28 (by decide), ko 28 (Or.inr (by decide)) (by decide)]
    · rw [if_neg q1, if_neg q1]
      by_cases q2 : r = 23 ∧ 8 * s ≤ i ∧ i < 8 * s + 8
      · rw [if_pos q2, if_pos q2, o1 29 (by decide), ko 29 (Or.inr (by decide)) (by decide)]
      · rw [if_neg q2, if_neg q2]
        unfold cpR
        by_cases q3 : r = 14 ∧ 16 * (3 + s) ≤ i ∧ i < 16 * (3 + s) + 16
        · rw [if_pos q3, if_pos q3, if_neg (by omega), ko 14 (Or.inr (by decide)) (by decide)]
        · rw [if_neg q3, if_neg q3]
          by_cases q4 : r = 14 ∧ 16 * s ≤ i ∧ i < 16 * s + 16
          · rw [if_pos q4, if_pos q4, ko 14 (Or.inr (by decide)) (by decide)]
          · rw [if_neg q4, if_neg q4]
  have oo : ∀ r, r ≠ 14 → r ≠ 22 → r ≠ 23 → N2 r = K r := fun r x y z => by
    funext i; rw [at_, if_neg (fun w => y w.1), if_neg (fun w => z w.1), if_neg (fun w => x w.1), if_neg (fun w => x w.1)]
  rw [← eN2]
  have hB : FR (becF G kn n σ.2.2) (fN G n) := becF_FR (fun i hi => hl.2.1 i (by omega)) a
  have hS : FR (slc s N2) (fN G n) := ((slc_o s (fun r x y => oo r (by omega) (by omega) (by omega))).fr).tr hK
  have q1 : CQ G s n (va_up (va_up σ.1 1 (va_cpy (MM 1) (σ.1 1) 0 0 16)) 2 (va_cpy (MM 2) (σ.1 2) 0 0 16), va_up σ.2.1 3 (va_cpy (JM 3) (σ.2.1 3) 0 0 L), becF G kn n σ.2.2) N2 := by
    refine ⟨hB, hB.tr hS.sy, fun j hj => ?_, ?_⟩
    · obtain ⟨p1, p2, p3, p4⟩ := hp j hj
      have x1 : va_up (va_up σ.1 1 (va_cpy (MM 1) (σ.1 1) 0 0 16)) 2 (va_cpy (MM 2) (σ.1 2) 0 0 16) 1 j = MM 1 j := by
        simp only [va_up]
        rw [if_neg (by decide), if_pos trivial, pk_cpy_in (by omega) (by omega), show 0 + (j - 0) = j by omega]
      have x2 : va_up (va_up σ.1 1 (va_cpy (MM 1) (σ.1 1) 0 0 16)) 2 (va_cpy (MM 2) (σ.1 2) 0 0 16) 2 j = MM 2 j := by
        simp only [va_up]
        rw [if_pos trivial, pk_cpy_in (by omega) (by omega), show 0 + (j - 0) = j by omega]
      have t6 : N2 6 (16 * s + j) = fN G n 2 j := (hS.1 j hj).1
      have n1 : N2 14 (16 * s + j) = N 14 (16 * (7 + 2 * (2 * s + k)) + j) := by
        rw [at_, if_neg (by omega), if_neg (by omega), if_neg (by omega), if_pos (by omega)]; congr 1; omega
      have n2 : N2 14 (16 * (3 + s) + j) = N 14 (16 * (8 + 2 * (2 * s + k)) + j) := by
        rw [at_, if_neg (by omega), if_neg (by omega), if_pos (by omega)]; congr 1; omega
      show va_up (va_up σ.1 1 (va_cpy (MM 1) (σ.1 1) 0 0 16)) 2 (va_cpy (MM 2) (σ.1 2) 0 0 16) 1 j = _ ∧ va_up (va_up σ.1 1 (va_cpy (MM 1) (σ.1 1) 0 0 16)) 2 (va_cpy (MM 2) (σ.1 2) 0 0 16) 2 j = _ ∧ rOk (va_up (va_up σ.1 1 (va_cpy (MM 1) (σ.1 1) 0 0 16)) 2 (va_cpy (MM 2) (σ.1 2) 0 0 16) 1 j) ∧ rOk (va_up (va_up σ.1 1 (va_cpy (MM 1) (σ.1 1) 0 0 16)) 2 (va_cpy (MM 2) (σ.1 2) 0 0 16) 2 j)
      rw [x1, x2]
      unfold rmO
      rw [t6, n1, n2]
      exact ⟨p1, p2, p3, p4⟩
    · show va_up (va_up σ.1 1 (va_cpy (MM 1) (σ.1 1) 0 0 16)) 2 (va_cpy (MM 2) (σ.1 2) 0 0 16) 11 0 = _
      rw [oo 25 (by decide) (by decide) (by decide), ko 25 (Or.inr (by decide)) (by decide)]
      exact d
  obtain ⟨q2, j2, l2⟩ := anew_ok q1
  have ar : ∀ r, r ≠ 1 → r ≠ 2 → (backS G kn n L MM JM σ).1 r = σ.1 r := fun r x y => by
    show va_up (va_up σ.1 1 (va_cpy (MM 1) (σ.1 1) 0 0 16)) 2 (va_cpy (MM 2) (σ.1 2) 0 0 16) r = _
    simp only [va_up]; rw [if_neg y, if_neg x]
  refine ⟨q2, j2, fun i hi => ?_, ⟨?_, ?_⟩, ⟨?_, ?_⟩, ⟨?_, ?_⟩, ?_⟩
  · have x3 : (backS G kn n L MM JM σ).2.1 3 i = JM 3 i := by
      have e3 := congrFun l2 i
      refine Eq.trans e3 ?_
      show va_up σ.2.1 3 (va_cpy (JM 3) (σ.2.1 3) 0 0 L) 3 i = _
      simp only [va_up]
      rw [if_pos trivial, pk_cpy_in (by omega) (by omega), show 0 + (i - 0) = i by omega]
    have n22 : N2 22 (8 * s + i) = N 28 (8 * (2 * s + k) + i) := by rw [at_, if_pos (by omega)]; congr 1; omega
    have n23 : N2 23 (8 * s + i) = N 29 (8 * (2 * s + k) + i) := by rw [at_, if_neg (by omega), if_pos (by omega)]; congr 1; omega
    rw [x3, n22, n23]
    exact hj i hi
  · rw [ar 8 (by decide) (by decide)]; exact h8
  · rw [oo 19 (by decide) (by decide) (by decide), ko 19 (Or.inr (by decide)) (by decide)]; exact h19
  · rw [ar 9 (by decide) (by decide), oo 20 (by decide) (by decide) (by decide), ko 20 (Or.inr (by decide)) (by decide)]; exact h9
  · rw [ar 10 (by decide) (by decide), oo 24 (by decide) (by decide) (by decide), ko 24 (Or.inr (by decide)) (by decide)]; exact h10
  · show (anew _).2.2 0 0 = _
    rw [anew_00]; exact becF_00 G kn n _ h00
  · rw [oo 18 (by decide) (by decide) (by decide)]; exact k18
  · rw [oo 21 (by decide) (by decide) (by decide), ko 21 (Or.inr (by decide)) (by decide)]; exact h21
theorem mr_back {s m n : Nat} {N : Nat → Nat → Int32} (hs : s < 3) : ∀ r i, mreg s r i → backR N s m n r i = N r i := by
  refine mr_of (fun i hi => ?_) (fun r hr => ?_)
  · unfold backR
    rw [bkL_o _ _ _ _ _ (by decide) (by decide), H14.cp _ _ (by omega) i hi, H14.cp _ _ (by omega) i hi, mkR_o _ _ _ _ (Or.inr (by decide)), st2_at, if_neg (by omega)]
  · unfold backR
    rw [bkL_o _ _ _ _ _ (by omega) (by omega), cpR_o _ _ _ _ _ (by omega), cpR_o _ _ _ _ _ (by omega), mkR_o _ _ _ _ (by omega)]
    simp only [st2, va_up]; rw [if_neg (by omega)]
/-! a new solve -/
theorem sc_new : scL (clr (fun _ _ => 0)) (fun _ => (-1)) = 0 := by decide +kernel
theorem newR_keep {s L : Nat} (N : Nat → Nat → Int32) (x : Int32) (hL : L ≤ 8) (k i : Nat) (h : ¬ wr s k i) (h17 : k ≠ 17) : newR N s L x k i = N k i := by
  unfold newR
  rw [SK.fl s _ hL k i h]
  unfold nrR
  rw [if_neg (fun z => h (by unfold wr; omega))]
  unfold sv0R
  have g : ∀ a b v (M : Nat → Nat → Int32), wr s a b → st2 M a b v k i = M k i := fun a b v M hw => SK.st M hw k i h
  rw [g 26 (2 * s + 1) _ _ (by unfold wr; omega), g 26 (2 * s) _ _ (by unfold wr; omega), g 25 s _ _ (by unfold wr; omega), g 24 s _ _ (by unfold wr; omega), g 21 s _ _ (by unfold wr; omega), g 20 s _ _ (by unfold wr; omega), g 19 s _ _ (by unfold wr; omega), g 18 s _ _ (by unfold wr; omega)]
  have h2 : ¬ wrF s k i := fun z => h (Or.inl z)
  unfold wrF at h2
  unfold fgS fgI
  rw [if_neg (by omega), if_neg (by omega), if_neg (by omega), st2_at, if_neg (fun z => h17 z.1)]
theorem new_ok {G N : Nat → Nat → Int32} {s L : Nat} {x : Int32} (hs : s < 3) (hL : L ≤ 8) : CF G s 0 L 0 (newS x, (fun _ _ => 0), clr (fun _ _ => 0)) (newR N s L x) := by
  obtain ⟨X, eX⟩ : ∃ z, z = nrR (sv0R N s L x) s 16 := ⟨_, rfl⟩
  obtain ⟨Y, eY⟩ : ∃ z, z = newR N s L x := ⟨_, rfl⟩
  have yx : ∀ r, r ≠ 15 → r ≠ 16 → r ≠ 22 → r ≠ 23 → Y r = X r := fun r a b c d => by
    rw [eY, eX]; unfold newR flR; rw [flI_o _ _ _ _ _ _ c d, jdg_o _ _ _ _ _ a b]
  have xs : ∀ r, r ≠ 14 → X r = sv0R N s L x r := fun r h => by rw [eX]; funext i; unfold nrR; rw [if_neg (fun z => h z.1)]
  have xf : ∀ r, 6 ≤ r → r ≤ 12 → X r = fgS (st2 N 17 0 (nI (s + 1))) s 6 r := fun r a b => by
    rw [xs r (by omega)]
    unfold sv0R
    simp only [st2, va_up]
    rw [if_neg (by omega), if_neg (by omega), if_neg (by omega), if_neg (by omega), if_neg (by omega), if_neg (by omega), if_neg (by omega), if_neg (by omega)]
  have hS : FR (slc s X) (clr (fun _ _ => 0)) := ((slc_o s xf).fr).tr (fgS_slc _ _ s)
  have n1 : ∀ r, (r = 1 ∨ r = 2) → ∀ j, j < 16 → newS x r j = (-1) := fun r hr j hj => by unfold newS; rw [if_pos hr, if_pos hj]
  have z2 : ∀ j, j < 16 → X 6 (16 * s + j) = 0 := fun j hj => by
    have : X 6 (16 * s + j) = clr (fun _ _ => 0) 2 j := (hS.1 j hj).1
    rw [this]; simp [clr, hj, nI_0]
  have q0 : CQ G s 0 (newS x, (fun _ _ => 0), clr (fun _ _ => 0)) X := by
    refine ⟨FR.rf _, hS.sy, fun j hj => ?_, ?_⟩
    · show newS x 1 j = _ ∧ newS x 2 j = _ ∧ rOk (newS x 1 j) ∧ rOk (newS x 2 j)
      rw [n1 1 (Or.inl rfl) j hj, n1 2 (Or.inr rfl) j hj]
      unfold rmO
      rw [if_pos (z2 j hj), if_pos (z2 j hj)]
      exact ⟨rfl, rfl, Or.inl rfl, Or.inl rfl⟩
    · rw [xs 25 (by decide)]
      show newS x 11 0 = _
      simp [newS, sv0R, st2_at, nI_0]
  have e0 : ∀ r, (r = 1 ∨ r = 2) → scL (clr (fun _ _ => 0)) (newS x r) = 0 := fun r hr => by
    rw [← sc_new]; exact scL_cg (FR.rf _) (fun j hj => n1 r hr j hj)
  have hb : FB (fN G 0) := fN_FB 0 (fun i hi => absurd hi (Nat.not_lt_zero _))
  obtain ⟨s1, s2, -, -⟩ := q0.sc hb
  rw [← eY]
  refine ⟨q0.mv rfl rfl rfl (FR.rf _) (fun r hr => yx r (by omega) (by omega) (by omega) (by omega)), ⟨(e0 1 (Or.inl rfl)).symm, (e0 2 (Or.inr rfl)).symm⟩, fun i hi => ?_, ⟨?_, ?_⟩, ⟨?_, ?_⟩, ⟨?_, ?_⟩, ?_⟩
  · have n22 : Y 22 (8 * s + i) = hdR X s s s 16 := by rw [eY, eX]; unfold newR flR flI; rw [if_pos (by omega)]
    have n23 : Y 23 (8 * s + i) = sfR X s s s 16 := by rw [eY, eX]; unfold newR flR flI; rw [if_neg (by omega), if_pos (by omega)]
    rw [n22, n23]
    exact ⟨(e0 1 (Or.inl rfl)).symm.trans s1, s2⟩
  · show newS x 8 0 = _; simp [newS, nI_0]
  · rw [yx 19 (by decide) (by decide) (by decide) (by decide), xs 19 (by decide)]; simp [sv0R, st2_at]
  · rw [yx 20 (by decide) (by decide) (by decide) (by decide), xs 20 (by decide)]; show newS x 9 0 = _; simp [newS, sv0R, st2_at]
  · rw [yx 24 (by decide) (by decide) (by decide) (by decide), xs 24 (by decide)]; show newS x 10 0 = _; simp [newS, sv0R, st2_at, nI_0]
  · show clr (fun _ _ => 0) 0 0 = _; simp [clr]
  · rw [yx 18 (by decide) (by decide) (by decide) (by decide), xs 18 (by decide)]; simp [sv0R, st2_at]
  · rw [yx 21 (by decide) (by decide) (by decide) (by decide), xs 21 (by decide)]; simp [sv0R, st2_at]
theorem Rel.new {AD : Nat → Nat → Nat} {TT : Nat → Nat → Nat → Int32} {JJ : Nat → Nat → Nat → Int64} {OP : Nat → Nat → Option Nat} {LL : Nat → Nat} {ns T cnt cw ko : Nat} (h : Rel AD TT JJ OP LL ns T cnt cw ko) (hn : ns < 3) {L : Nat} (hL1 : 1 ≤ L) (hL : L ≤ 8) (x : Int32) (an af : Nat → Nat) : Rel (va_up (va_up AD (10 + ns) an) (20 + ns) af) (va_up (va_up (va_up (va_up TT 0 (st2 (TT 0) 4 0 (nI (ns + 1)))) (10 + ns) (newS x)) (20 + ns) (clr (fun _ _ => 0))) 4 (newR (TT 4) ns L x)) (va_up JJ (10 + ns) (fun _ _ => 0)) (va_up (va_up OP 0 (va_up (OP 0) ns (some (an 100)))) (10 + ns) (fun _ => none)) (va_up LL ns L) (ns + 1) T cnt cw ko := by
  obtain ⟨⟨a1, a2, a3, a4⟩, ⟨b1, b2, b3⟩, ⟨c1, c2, c3, c4⟩, ⟨d1, d2, d3⟩, ⟨e1, e2, e3⟩, h6⟩ := h
  obtain ⟨TU, eU⟩ : ∃ z, z = va_up (va_up (va_up (va_up TT 0 (st2 (TT 0) 4 0 (nI (ns + 1)))) (10 + ns) (newS x)) (20 + ns) (clr (fun _ _ => 0))) 4 (newR (TT 4) ns L x) := ⟨_, rfl⟩
  obtain ⟨N2, eN2⟩ : ∃ z, z = newR (TT 4) ns L x := ⟨_, rfl⟩
  obtain ⟨AU, eA⟩ : ∃ z, z = va_up (va_up AD (10 + ns) an) (20 + ns) af := ⟨_, rfl⟩
  obtain ⟨OU, eO⟩ : ∃ z, z = va_up (va_up OP 0 (va_up (OP 0) ns (some (an 100)))) (10 + ns) (fun _ => none) := ⟨_, rfl⟩
  have u4 : TU 4 = N2 := by rw [eU, eN2]; exact if_pos rfl
  have u0 : TU 0 = st2 (TT 0) 4 0 (nI (ns + 1)) := by rw [eU]; simp only [va_up]; rw [if_neg (by omega), if_neg (by omega), if_neg (by omega), if_pos trivial]
  have u1 : TU (10 + ns) = newS x := by rw [eU]; simp only [va_up]; rw [if_neg (by omega), if_neg (by omega), if_pos trivial]
  have u2 : TU (20 + ns) = clr (fun _ _ => 0) := by rw [eU]; simp only [va_up]; rw [if_neg (by omega), if_pos trivial]
  have uo : ∀ i, i ≠ 4 → i ≠ 0 → i ≠ 10 + ns → i ≠ 20 + ns → TU i = TT i := fun i x y z w => by rw [eU]; simp only [va_up]; rw [if_neg x, if_neg w, if_neg z, if_neg y]
  have ao : ∀ i, i ≠ 10 + ns → i ≠ 20 + ns → AU i = AD i := fun i z w => by rw [eA]; simp only [va_up]; rw [if_neg w, if_neg z]
  have a10 : AU (10 + ns) = an := by rw [eA]; simp only [va_up]; rw [if_neg (by omega), if_pos trivial]
  have o0 : OU 0 = va_up (OP 0) ns (some (an 100)) := by rw [eO]; simp only [va_up]; rw [if_neg (by omega), if_pos trivial]
  have o1 : OU (10 + ns) = fun _ => none := by rw [eO]; exact if_pos rfl
  have oo : ∀ i, i ≠ 0 → i ≠ 10 + ns → OU i = OP i := fun i z w => by rw [eO]; simp only [va_up]; rw [if_neg w, if_neg z]
  have nk : ∀ k i, ¬ wr ns k i → k ≠ 17 → N2 k i = TT 4 k i := fun k i y z => by rw [eN2]; exact newR_keep _ x hL k i y z
  have so : ∀ r i, (r < 6 ∨ r = 13 ∨ wrF 3 r i ∨ wrF 4 r i) → N2 r i = TT 4 r i := fun r i z => nk r i (own_ap hn (by rcases z with z | z | z | z <;> simp [z])) (by unfold wrF at z; omega)
  have n17 : N2 17 0 = nI (ns + 1) := by
    rw [eN2]; unfold newR
    rw [show flR (nrR (sv0R (TT 4) ns L x) ns 16) ns L 17 0 = nrR (sv0R (TT 4) ns L x) ns 16 17 0 from SK.fl ns _ hL 17 0 (by unfold wr wrF; omega)]
    unfold nrR
    rw [if_neg (by omega)]
    simp [sv0R, st2_at, fgS, fgI]
  have n26 : ∀ k, k < 2 → N2 26 (2 * ns + k) = 0 := fun k hk => by
    rw [eN2]; unfold newR flR
    rw [flI_o _ _ _ _ _ _ (by decide) (by decide), jdg_o _ _ _ _ _ (by decide) (by decide)]
    unfold nrR
    rw [if_neg (by omega)]
    unfold sv0R
    rw [st2_at, st2_at]
    by_cases e : k = 1
    · rw [if_pos (by omega), nI_0]
    · rw [if_neg (by omega), if_pos (by omega), nI_0]
  rw [← eU, ← eA, ← eO]
  unfold Rel
  rw [u4, u0, uo 1 (by omega) (by omega) (by omega) (by omega), uo 2 (by omega) (by omega) (by omega) (by omega), uo 3 (by omega) (by omega) (by omega) (by omega)]
  refine ⟨⟨a1, a2, by rw [so 0 0 (by omega)]; exact a3, a4.cg (fun r hr => funext fun i => so r i (Or.inl hr))⟩, ⟨b1, b2, b3.tr (slc_ef (fun r i z => so r i (Or.inr (Or.inr (Or.inr z))))).fr.sy⟩, ⟨c1, by rw [so 13 0 (by omega)]; exact c2, c3, c4⟩, ⟨d1, d2, d3⟩, ⟨by omega, by rw [st2_at, if_pos ⟨rfl, rfl⟩], n17⟩, fun v hv => ?_⟩
  by_cases e : v = ns
  · subst e
    have l1 : va_up LL v L v = L := if_pos rfl
    unfold SRel
    rw [o0, a10, l1, u1, u2, show va_up JJ (10 + v) (fun _ _ => 0) (10 + v) = (fun _ _ => 0) from if_pos rfl, o1]
    refine ⟨if_pos rfl, ⟨hL1, hL⟩, ⟨0, 0, by omega, by omega, by rw [eN2]; exact new_ok hn hL⟩, fun k hk => Or.inl ⟨rfl, n26 k hk⟩⟩
  · refine ((h6 v (by omega)).cg (Nat.le_refl _) (Nat.le_refl _) (fun _ _ => rfl) (fun r i z => nk r i (z.elim (creg_ap hn (by omega) (fun y => e y.symm)) (mreg_ap hn (by omega) (fun y => e y.symm))) (by unfold creg mreg wrF at z; omega))).st (ao _ (by omega) (by omega)) (fun k2 hk2 => ao _ (by omega) (by omega)) (uo _ (by omega) (by omega) (by omega) (by omega)) (uo _ (by omega) (by omega) (by omega) (by omega)) (fun k2 hk2 => uo _ (by omega) (by omega) (by omega) (by omega)) (if_neg (by omega)) (fun k2 hk2 => if_neg (by omega)) (by rw [o0]; exact if_neg e) (oo _ (by omega) (by omega)) (if_neg e)
