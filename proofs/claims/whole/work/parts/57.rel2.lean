/-! THE WHOLE RELATION -/
def creg (s k i : Nat) : Prop := wrF s k i ∨ (k = 14 ∧ (16 * s ≤ i ∧ i < 16 * s + 16 ∨ 16 * (3 + s) ≤ i ∧ i < 16 * (3 + s) + 16)) ∨ ((k = 18 ∨ k = 19 ∨ k = 20 ∨ k = 21 ∨ k = 24 ∨ k = 25) ∧ i = s) ∨ ((k = 22 ∨ k = 23) ∧ 8 * s ≤ i ∧ i < 8 * s + 8)
def mreg (s k i : Nat) : Prop := (k = 14 ∧ 16 * (7 + 4 * s) ≤ i ∧ i < 16 * (11 + 4 * s)) ∨ ((k = 26 ∨ k = 27) ∧ 2 * s ≤ i ∧ i < 2 * s + 2) ∨ ((k = 28 ∨ k = 29) ∧ 16 * s ≤ i ∧ i < 16 * s + 16)
theorem creg_ap {s v k i : Nat} (hs : s < 3) (hv : v < 3) (hne : s ≠ v) (h : creg v k i) : ¬ wr s k i := by
  unfold creg wr wrF at *
  rcases h with h | h | h | h <;> omega
theorem mreg_ap {s v k i : Nat} (hs : s < 3) (hv : v < 3) (hne : s ≠ v) (h : mreg v k i) : ¬ wr s k i := by
  unfold mreg wr wrF at *
  rcases h with h | h | h <;> omega
theorem slc_ef {s : Nat} {N N2 : Nat → Nat → Int32} (h : ∀ k i, wrF s k i → N2 k i = N k i) : EF (slc s N2) (slc s N) := fun k j z => by
  unfold slc
  by_cases e : k = 8
  · rw [if_pos e, if_pos e]; exact h 12 _ (by unfold wrF; omega)
  · rw [if_neg e, if_neg e]; exact h _ _ (by unfold wrF; omega)
theorem CF.cg {G G2 N N2 : Nat → Nat → Int32} {s k L t : Nat} {σ : SJM} (h : CF G s k L t σ N) (hL : L ≤ 8) (hG : fN G2 k = fN G k) (hN : ∀ r i, creg s r i → N2 r i = N r i) : CF G2 s k L t σ N2 := by
  obtain ⟨⟨a, b, c, d⟩, hj, hl, ⟨h8, h19⟩, ⟨h9, h10⟩, ⟨h00, h18⟩, h21⟩ := h
  refine ⟨⟨by rw [hG]; exact a, b.tr (slc_ef (fun r i z => hN r i (Or.inl z))).fr.sy, fun j hj => ?_, ?_⟩, hj, fun i hi => ?_, ⟨h8, ?_⟩, ⟨?_, ?_⟩, ⟨h00, ?_⟩, ?_⟩
  · unfold CP rmO at c
    unfold rmO
    rw [hN 6 (16 * s + j) (by unfold creg wrF; omega), hN 14 (16 * s + j) (by unfold creg wrF; omega), hN 14 (16 * (3 + s) + j) (by unfold creg wrF; omega)]
    exact c j hj
  · rw [hN 25 s (by unfold creg wrF; omega)]; exact d
  · rw [hN 22 (8 * s + i) (by unfold creg wrF; omega), hN 23 (8 * s + i) (by unfold creg wrF; omega)]; exact hl i hi
  · rw [hN 19 s (by unfold creg wrF; omega)]; exact h19
  · rw [hN 20 s (by unfold creg wrF; omega)]; exact h9
  · rw [hN 24 s (by unfold creg wrF; omega)]; exact h10
  · rw [hN 18 s (by unfold creg wrF; omega)]; exact h18
  · rw [hN 21 s (by unfold creg wrF; omega)]; exact h21
def MP (G : Nat → Nat → Int32) (km p1 p2 : Nat) (MM N : Nat → Nat → Int32) : Prop := ∀ j, j < 16 → MM 1 j = (if fN G km 2 j = 0 then (-1) else N 14 (16 * p1 + j)) ∧ MM 2 j = (if fN G km 2 j = 0 then (-1) else N 14 (16 * p2 + j)) ∧ rOk (MM 1 j) ∧ rOk (MM 2 j)
def MJ (m L : Nat) (J : Nat → Int64) (N : Nat → Nat → Int32) : Prop := ∀ i, i < L → J i = pkL (N 28 (8 * m + i)) (N 29 (8 * m + i)) ∧ 0 ≤ (N 29 (8 * m + i)).toInt
def MK (G : Nat → Nat → Int32) (cnt s k L : Nat) (op : Option Nat) (a : Nat) (MM : Nat → Nat → Int32) (JM : Nat → Nat → Int64) (N : Nat → Nat → Int32) : Prop := (op = none ∧ N 26 (2 * s + k) = 0) ∨ (op = some a ∧ ¬ N 26 (2 * s + k) = 0 ∧ ∃ km, km ≤ cnt ∧ MM 0 0 = nI km ∧ N 27 (2 * s + k) = nI km ∧ MP G km (7 + 2 * (2 * s + k)) (8 + 2 * (2 * s + k)) MM N ∧ MJ (2 * s + k) L (JM 3) N)
theorem MK.cg {G G2 N N2 : Nat → Nat → Int32} {cnt cnt2 s k L : Nat} {op : Option Nat} {a : Nat} {MM : Nat → Nat → Int32} {JM : Nat → Nat → Int64} (h : MK G cnt s k L op a MM JM N) (hk : k < 2) (hL : L ≤ 8) (hc : cnt ≤ cnt2) (hG : ∀ q, q ≤ cnt → fN G2 q = fN G q) (hN : ∀ r i, mreg s r i → (r = 14 → 16 * (7 + 2 * (2 * s + k)) ≤ i ∧ i < 16 * (9 + 2 * (2 * s + k))) → ((r = 26 ∨ r = 27) → i = 2 * s + k) → ((r = 28 ∨ r = 29) → 8 * (2 * s + k) ≤ i ∧ i < 8 * (2 * s + k) + 8) → N2 r i = N r i) : MK G2 cnt2 s k L op a MM JM N2 := by
  have e26 := hN 26 (2 * s + k) (by unfold mreg; omega) (by omega) (by omega) (by omega)
  rcases h with ⟨h1, h2⟩ | ⟨h1, h2, km, hkm, h3, h4, h5, h6⟩
  · exact Or.inl ⟨h1, by rw [e26]; exact h2⟩
  · refine Or.inr ⟨h1, by rw [e26]; exact h2, km, by omega, h3, by rw [hN 27 (2 * s + k) (by unfold mreg; omega) (by omega) (by omega) (by omega)]; exact h4, fun j hj => ?_, fun i hi => ?_⟩
    · rw [hG km hkm, hN 14 (16 * (7 + 2 * (2 * s + k)) + j) (by unfold mreg; omega) (by omega) (by omega) (by omega), hN 14 (16 * (8 + 2 * (2 * s + k)) + j) (by unfold mreg; omega) (by omega) (by omega) (by omega)]
      exact h5 j hj
    · rw [hN 28 (8 * (2 * s + k) + i) (by unfold mreg; omega) (by omega) (by omega) (by omega), hN 29 (8 * (2 * s + k) + i) (by unfold mreg; omega) (by omega) (by omega) (by omega)]
      exact h6 i hi
section RR
variable (AD : Nat → Nat → Nat) (TT : Nat → Nat → Nat → Int32) (JJ : Nat → Nat → Nat → Int64) (OP : Nat → Nat → Option Nat) (LL : Nat → Nat)
def SRel (G : Nat → Nat → Int32) (cnt T s : Nat) (N : Nat → Nat → Int32) : Prop := OP 0 s = some (AD (10 + s) 100) ∧ (1 ≤ LL s ∧ LL s ≤ 8) ∧ (∃ k t, k ≤ cnt ∧ t ≤ T ∧ CF G s k (LL s) t (TT (10 + s), JJ (10 + s), TT (20 + s)) N) ∧ ∀ k, k < 2 → MK G cnt s k (LL s) (OP (10 + s) k) (AD (30 + 2 * s + k) 100) (TT (30 + 2 * s + k)) (JJ (30 + 2 * s + k)) N
def Rel (ns T cnt cw ko : Nat) : Prop :=
  (cnt ≤ 120 ∧ TT 1 5 0 = nI cnt ∧ TT 4 0 0 = nI cnt ∧ LG (TT 1) (TT 4) cnt) ∧
  (TT 2 0 0 = nI cnt ∧ FR (TT 2) (fN (TT 1) cnt) ∧ FR (TT 2) (slc 4 (TT 4))) ∧
  (TT 2 1 0 = nI cw ∧ TT 4 13 0 = nI cw ∧ cw ≤ 16 ∧ ∀ j, j < 16 → ¬ TT 2 2 j = 0 → j < cw) ∧
  (TT 3 0 0 = nI ko ∧ ko ≤ cnt ∧ FR (TT 3) (fN (TT 1) ko)) ∧
  (ns ≤ 3 ∧ TT 0 4 0 = nI ns ∧ TT 4 17 0 = nI ns) ∧
  ∀ s, s < ns → SRel AD TT JJ OP LL (TT 1) cnt T s (TT 4)
end RR
def RelW (cA : Nat → ClassId) (T ax ar : Nat) (ws : va_W) : Prop := ∃ (AD : Nat → Nat → Nat) (TT : Nat → Nat → Nat → Int32) (JJ : Nat → Nat → Nat → Int64) (OP : Nat → Nat → Option Nat) (LL : Nat → Nat) (ns cnt cw ko : Nat), Rel AD TT JJ OP LL ns T cnt cw ko ∧ ws.Perm (wAll cA AD TT JJ OP LL ns) ∧ AD 0 100 = ax ∧ AD 4 100 = ar
theorem SRel.cg {AD : Nat → Nat → Nat} {TT : Nat → Nat → Nat → Int32} {JJ : Nat → Nat → Nat → Int64} {OP : Nat → Nat → Option Nat} {LL : Nat → Nat} {G G2 N N2 : Nat → Nat → Int32} {cnt cnt2 T T2 s : Nat} (h : SRel AD TT JJ OP LL G cnt T s N) (hc : cnt ≤ cnt2) (hT : T ≤ T2) (hG : ∀ q, q ≤ cnt → fN G2 q = fN G q) (hN : ∀ r i, creg s r i ∨ mreg s r i → N2 r i = N r i) : SRel AD TT JJ OP LL G2 cnt2 T2 s N2 := by
  obtain ⟨h1, h2, ⟨k, t, hk, ht, hf⟩, hm⟩ := h
  exact ⟨h1, h2, ⟨k, t, by omega, by omega, hf.cg h2.2 (hG k hk) (fun r i z => hN r i (Or.inl z))⟩, fun k hk => (hm k hk).cg hk h2.2 hc hG (fun r i z _ _ _ => hN r i (Or.inr z))⟩
/-- another state, the same at solve s -/
theorem SRel.st {AD AD2 : Nat → Nat → Nat} {TT TT2 : Nat → Nat → Nat → Int32} {JJ JJ2 : Nat → Nat → Nat → Int64} {OP OP2 : Nat → Nat → Option Nat} {LL LL2 : Nat → Nat} {G N : Nat → Nat → Int32} {cnt T s : Nat} (h : SRel AD TT JJ OP LL G cnt T s N) (a1 : AD2 (10 + s) = AD (10 + s)) (a2 : ∀ k, k < 2 → AD2 (30 + 2 * s + k) = AD (30 + 2 * s + k)) (t1 : TT2 (10 + s) = TT (10 + s)) (t2 : TT2 (20 + s) = TT (20 + s)) (t3 : ∀ k, k < 2 → TT2 (30 + 2 * s + k) = TT (30 + 2 * s + k)) (j1 : JJ2 (10 + s) = JJ (10 + s)) (j3 : ∀ k, k < 2 → JJ2 (30 + 2 * s + k) = JJ (30 + 2 * s + k)) (o0 : OP2 0 s = OP 0 s) (o1 : OP2 (10 + s) = OP (10 + s)) (l1 : LL2 s = LL s) : SRel AD2 TT2 JJ2 OP2 LL2 G cnt T s N := by
  obtain ⟨h1, h2, hf, hm⟩ := h
  unfold SRel
  rw [o0, a1, l1, t1, t2, j1]
  exact ⟨h1, h2, hf, fun k hk => by rw [o1, a2 k hk, t3 k hk, j3 k hk]; exact hm k hk⟩
theorem RelW.pm {cA : Nat → ClassId} {T ax ar : Nat} {ws ws2 : va_W} (h : RelW cA T ax ar ws) (hp : ws2.Perm ws) : RelW cA T ax ar ws2 := by
  obtain ⟨AD, TT, JJ, OP, LL, ns, cnt, cw, ko, h1, h2, h3, h4⟩ := h
  exact ⟨AD, TT, JJ, OP, LL, ns, cnt, cw, ko, h1, hp.trans h2, h3, h4⟩
theorem Rel.T {AD : Nat → Nat → Nat} {TT : Nat → Nat → Nat → Int32} {JJ : Nat → Nat → Nat → Int64} {OP : Nat → Nat → Option Nat} {LL : Nat → Nat} {ns T T2 cnt cw ko : Nat} (h : Rel AD TT JJ OP LL ns T cnt cw ko) (hT : T ≤ T2) : Rel AD TT JJ OP LL ns T2 cnt cw ko := by
  obtain ⟨h1, h2, h3, h4, h5, h6⟩ := h
  exact ⟨h1, h2, h3, h4, h5, fun s hs => (h6 s hs).cg (Nat.le_refl _) hT (fun _ _ => rfl) (fun _ _ _ => rfl)⟩
/-- only what belongs to nobody has changed in the reference: hard, soft, the asked facts -/
theorem Rel.jd {AD : Nat → Nat → Nat} {TT : Nat → Nat → Nat → Int32} {JJ : Nat → Nat → Nat → Int64} {OP : Nat → Nat → Option Nat} {LL : Nat → Nat} {ns T cnt cw ko : Nat} (h : Rel AD TT JJ OP LL ns T cnt cw ko) (N2 : Nat → Nat → Int32) (hN : ∀ k i, k ≠ 15 → k ≠ 16 → ¬ wrF 3 k i → N2 k i = TT 4 k i) : Rel AD (va_up TT 4 N2) JJ OP LL ns T cnt cw ko := by
  obtain ⟨⟨a1, a2, a3, a4⟩, ⟨b1, b2, b3⟩, ⟨c1, c2, c3, c4⟩, ⟨d1, d2, d3⟩, ⟨e1, e2, e3⟩, h6⟩ := h
  have u4 : va_up TT 4 N2 4 = N2 := if_pos rfl
  have uo : ∀ i, i ≠ 4 → va_up TT 4 N2 i = TT i := fun i hi => if_neg hi
  unfold Rel
  rw [u4, uo 0 (by decide), uo 1 (by decide), uo 2 (by decide), uo 3 (by decide)]
  refine ⟨⟨a1, a2, by rw [hN 0 0 (by decide) (by decide) (by unfold wrF; omega)]; exact a3, a4.cg (fun k hk => funext fun i => hN k i (by omega) (by omega) (by unfold wrF; omega))⟩, ⟨b1, b2, b3.tr (slc_ef (fun k i z => hN k i (by unfold wrF at z; omega) (by unfold wrF at z; omega) (by unfold wrF at z ⊢; omega))).fr.sy⟩, ⟨c1, by rw [hN 13 0 (by decide) (by decide) (by unfold wrF; omega)]; exact c2, c3, c4⟩, ⟨d1, d2, d3⟩, ⟨e1, e2, by rw [hN 17 0 (by decide) (by decide) (by unfold wrF; omega)]; exact e3⟩, fun s hs => ?_⟩
  exact ((h6 s hs).cg (Nat.le_refl _) (Nat.le_refl _) (fun _ _ => rfl) (fun k i z => hN k i (by unfold creg mreg wrF at z; omega) (by unfold creg mreg wrF at z; omega) (by unfold creg mreg wrF at z; unfold wrF; omega))).st rfl (fun _ _ => rfl) (uo _ (by omega)) (uo _ (by omega)) (fun k hk => uo _ (by omega)) rfl (fun _ _ => rfl) rfl rfl rfl
/-! what catching up and steps leave of the marks' rooms -/
def H14 (N N2 : Nat → Nat → Int32) : Prop := ∀ i, 112 ≤ i → N2 14 i = N 14 i
theorem H14.tr {A B C : Nat → Nat → Int32} (h : H14 A B) (g : H14 B C) : H14 A C := fun i hi => (g i hi).trans (h i hi)
theorem H14.row {A B : Nat → Nat → Int32} (h : B 14 = A 14) : H14 A B := fun i _ => by rw [h]
theorem H14.st {N : Nat → Nat → Int32} {k j : Nat} {v : Int32} (h : k ≠ 14 ∨ j < 112) : H14 N (st2 N k j v) := fun i hi => by rw [st2_at, if_neg (by omega)]
theorem H14.cp (N : Nat → Nat → Int32) (a : Nat) {b : Nat} (hb : b < 7) : H14 N (cpR N a b 16) := fun i hi => by unfold cpR; rw [if_neg (by omega)]
theorem H14.kb (N : Nat → Nat → Int32) {s : Nat} (hs : s < 3) : H14 N (kbR N s) := by
  unfold kbR
  split
  · exact ((H14.row (jdg_o _ _ _ _ 14 (by decide) (by decide))).tr (H14.cp _ _ (by omega))).tr (H14.st (by omega))
  · exact H14.row (jdg_o _ _ _ _ 14 (by decide) (by decide))
theorem H14.fl (N : Nat → Nat → Int32) (s L : Nat) : H14 N (flR N s L) := H14.row (by unfold flR; rw [flI_o _ _ _ _ _ _ (by decide) (by decide), jdg_o _ _ _ _ 14 (by decide) (by decide)])
theorem H14.cu1 {N : Nat → Nat → Int32} {s i : Nat} (hs : s < 3) (hw : wfE (logR N) i) : H14 N (cuI N s i) := by
  obtain ⟨k, w, hk8, hw16, ek, ew, -⟩ := wfE_k hw
  have ew2 : (N 2 i).toNatClampNeg = w := ew
  have h1 : H14 N (st2 (apR N s i) 18 s (nI (i + 1))) := (H14.row (apR_o _ _ _ _ (Or.inr (by decide)))).tr (H14.st (by omega))
  unfold cuI
  rw [ew2]
  split
  · exact (h1.tr (H14.st (by omega))).tr (H14.st (by omega))
  · split
    · exact (h1.tr (H14.st (by omega))).tr (H14.st (by omega))
    · exact h1
theorem H14.cuA {s a : Nat} {N : Nat → Nat → Int32} (hs : s < 3) (c : Nat) (hw : ∀ i, i < a + c → wfE (logR N) i) : H14 N (cuR s a c N) := by
  induction c with
  | zero => exact fun _ _ => rfl
  | succ c ih => exact (ih (fun i hi => hw i (by omega))).tr (H14.cu1 hs (wfE_cg (logR_cg (fun k hk => cuR_o s a c N k (Or.inl hk) (by omega) (by omega)) _) (hw (a + c) (by omega))))
theorem H14.cat {s k n L : Nat} {N : Nat → Nat → Int32} (hs : s < 3) (hkn : k ≤ n) (hw : ∀ i, i < n → wfE (logR N) i) : H14 N (catR N s k n L) := by
  unfold catR
  exact ((H14.cuA hs (n - k) (fun i hi => hw i (by omega))).tr (H14.kb _ hs)).tr (H14.fl _ _ _)
theorem H14.si {s t L : Nat} (N : Nat → Nat → Int32) (hs : s < 3) : H14 N (siR N s t L) := by
  have ht : ∀ N : Nat → Nat → Int32, H14 N (trR N s) := fun N => by
    have h1 := jth_lt (slc s N) (unat (N 20 s) 16 % mvc (slc s N) 16)
    have h2 := jth_lt (slc s N) (unat (N 20 s) 20 % mvc (slc s N) 16)
    unfold trR
    split
    · exact ((H14.cp N s (by decide)).tr (H14.st (by omega))).tr (H14.st (by omega))
    · exact (H14.cp N s (by decide)).tr (H14.st (by omega))
  have ha : ∀ (N : Nat → Nat → Int32) (q : Nat), H14 N (atR N s q) := fun N q => by
    unfold atR
    split
    · exact fun _ _ => rfl
    · split
      · exact (ht N).tr (H14.row (jdg_o _ _ _ _ 14 (by decide) (by decide)))
      · exact (((ht N).tr (H14.row (jdg_o _ _ _ _ 14 (by decide) (by decide)))).tr (H14.cp _ _ (by omega))).tr (H14.st (by omega))
  have hl : ∀ (N : Nat → Nat → Int32) (q : Nat), H14 N (latR N s q) := fun N q => by
    unfold latR
    exact ((H14.row (jdg_o _ _ _ _ 14 (by decide) (by decide))).tr (H14.st (by omega))).tr (H14.st (by omega))
  unfold siR
  exact ((((H14.st (by omega)).tr (ha _ _)).tr (hl _ _)).tr (H14.kb _ hs)).tr (H14.st (by omega))
theorem H14.ss {s t L : Nat} (N : Nat → Nat → Int32) (hs : s < 3) (n : Nat) : H14 N (ssR s t L n N) := by
  induction n with
  | zero => exact fun _ _ => rfl
  | succ n ih => exact ih.tr (H14.si _ hs)
/-- a solve's state after an operation of it that leaves its marks -/
theorem Rel.op {AD : Nat → Nat → Nat} {TT : Nat → Nat → Nat → Int32} {JJ : Nat → Nat → Nat → Int64} {OP : Nat → Nat → Option Nat} {LL : Nat → Nat} {ns T T2 cnt cw ko : Nat} (h : Rel AD TT JJ OP LL ns T cnt cw ko) (hT : T ≤ T2) {s k t : Nat} (hs : s < ns) (hk : k ≤ cnt) (ht : t ≤ T2) (σ : SJM) (N2 : Nat → Nat → Int32) (hf : CF (TT 1) s k (LL s) t σ N2) (hsk : SK s (TT 4) N2) (hm : ∀ r i, mreg s r i → N2 r i = TT 4 r i) : Rel AD (va_up (va_up (va_up TT (10 + s) σ.1) (20 + s) σ.2.2) 4 N2) (va_up JJ (10 + s) σ.2.1) OP LL ns T2 cnt cw ko := by
  obtain ⟨⟨a1, a2, a3, a4⟩, ⟨b1, b2, b3⟩, ⟨c1, c2, c3, c4⟩, ⟨d1, d2, d3⟩, ⟨e1, e2, e3⟩, h6⟩ := h
  obtain ⟨TU, eU⟩ : ∃ z, z = va_up (va_up (va_up TT (10 + s) σ.1) (20 + s) σ.2.2) 4 N2 := ⟨_, rfl⟩
  have u4 : TU 4 = N2 := by rw [eU]; exact if_pos rfl
  have uo : ∀ i, i ≠ 4 → i ≠ 10 + s → i ≠ 20 + s → TU i = TT i := fun i x y z => by rw [eU]; simp only [va_up]; rw [if_neg x, if_neg z, if_neg y]
  have u1 : TU (10 + s) = σ.1 := by rw [eU]; simp only [va_up]; rw [if_neg (by omega), if_neg (by omega), if_pos trivial]
  have u2 : TU (20 + s) = σ.2.2 := by rw [eU]; simp only [va_up]; rw [if_neg (by omega), if_pos trivial]
  have hs3 : s < 3 := by omega
  have so : ∀ r i, (r < 6 ∨ r = 13 ∨ r = 17 ∨ wrF 3 r i ∨ wrF 4 r i) → N2 r i = TT 4 r i := fun r i z => hsk r i (own_ap hs3 z)
  rw [← eU]
  unfold Rel
  rw [u4, uo 0 (by omega) (by omega) (by omega), uo 1 (by omega) (by omega) (by omega), uo 2 (by omega) (by omega) (by omega), uo 3 (by omega) (by omega) (by omega)]
  refine ⟨⟨a1, a2, by rw [so 0 0 (by omega)]; exact a3, a4.cg (fun r hr => funext fun i => so r i (Or.inl hr))⟩, ⟨b1, b2, b3.tr (slc_ef (fun r i z => so r i (Or.inr (Or.inr (Or.inr (Or.inr z)))))).fr.sy⟩, ⟨c1, by rw [so 13 0 (by omega)]; exact c2, c3, c4⟩, ⟨d1, d2, d3⟩, ⟨e1, e2, by rw [so 17 0 (by omega)]; exact e3⟩, fun v hv => ?_⟩
  by_cases e : v = s
  · subst e
    obtain ⟨q1, q2, -, q4⟩ := h6 v hs
    refine ⟨q1, q2, ⟨k, t, hk, ht, ?_⟩, fun k2 hk2 => ?_⟩
    · rw [u1, u2, show va_up JJ (10 + v) σ.2.1 (10 + v) = σ.2.1 from if_pos rfl]; exact hf
    · rw [uo _ (by omega) (by omega) (by omega), show va_up JJ (10 + v) σ.2.1 (30 + 2 * v + k2) = JJ (30 + 2 * v + k2) from if_neg (by omega)]
      exact (q4 k2 hk2).cg hk2 q2.2 (Nat.le_refl _) (fun _ _ => rfl) (fun r i z _ _ _ => hm r i z)
  · exact ((h6 v hv).cg (Nat.le_refl _) hT (fun _ _ => rfl) (fun r i z => hsk r i (z.elim (creg_ap hs3 (by omega) (fun y => e y.symm)) (mreg_ap hs3 (by omega) (fun y => e y.symm))))).st rfl (fun _ _ => rfl) (uo _ (by omega) (by omega) (by omega)) (uo _ (by omega) (by omega) (by omega)) (fun k2 hk2 => uo _ (by omega) (by omega) (by omega)) (if_neg (by omega)) (fun k2 hk2 => if_neg (by omega)) rfl rfl rfl
