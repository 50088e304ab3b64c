/-! numbers: bits, counts of bits, two numbers in a long -/
theorem bitm_nI : ∀ w : Nat, w < 16 → bitm w = nI (2 ^ w) := by decide +kernel
theorem nI_and {a b : Nat} (ha : a < 2 ^ 32) (hb : b < 2 ^ 32) : nI a &&& nI b = nI (a &&& b) := by
  apply Int32.toBitVec_inj.mp
  apply BitVec.eq_of_toNat_eq
  rw [show (nI a &&& nI b).toBitVec = (nI a).toBitVec &&& (nI b).toBitVec from rfl, BitVec.toNat_and, pk_tn ha, pk_tn hb, pk_tn (Nat.lt_of_le_of_lt Nat.and_le_left ha)]
theorem nI_or {a b : Nat} (ha : a < 2 ^ 16) (hb : b < 2 ^ 16) : nI a ||| nI b = nI (a ||| b) := by
  apply Int32.toBitVec_inj.mp
  apply BitVec.eq_of_toNat_eq
  rw [show (nI a ||| nI b).toBitVec = (nI a).toBitVec ||| (nI b).toBitVec from rfl, BitVec.toNat_or, pk_tn (by omega), pk_tn (by omega), pk_tn (Nat.lt_of_lt_of_le (Nat.or_lt_two_pow ha hb) (by decide))]
theorem nI_andL {m : Nat} (hm : m < 2 ^ 16) (y : Int32) : ∃ q, q < 2 ^ 16 ∧ nI m &&& y = nI q := by
  have hl : m &&& y.toBitVec.toNat < 2 ^ 16 := Nat.lt_of_le_of_lt Nat.and_le_left hm
  refine ⟨m &&& y.toBitVec.toNat, hl, ?_⟩
  apply Int32.toBitVec_inj.mp
  apply BitVec.eq_of_toNat_eq
  rw [show (nI m &&& y).toBitVec = (nI m).toBitVec &&& y.toBitVec from rfl, BitVec.toNat_and, pk_tn (by omega), pk_tn (by omega)]
theorem sh_k : ∀ k : Nat, k < 16 → ((nI k &&& 31).toBitVec.smod 32).toNat = k := by decide +kernel
theorem bit_at {m k : Nat} (hm : m < 2 ^ 16) (hk : k < 16) : (nI m >>> (nI k &&& 31) &&& nI 1 = nI 1) ↔ m.testBit k = true := by
  rw [pk_shrN (by omega) _ k (sh_k k hk), pk_andN (Nat.lt_of_le_of_lt (Nat.div_le_self _ _) (by omega)) 1 (by decide +kernel), nI_eq (by omega) (by decide), Nat.testBit_eq_decide_div_mod_eq]
  simp
def pcn (x : Nat) : Nat → Nat
  | 0 => 0
  | n + 1 => pcn x n + x / 2 ^ n % 2
theorem pcn_s (x n : Nat) : pcn x (n + 1) = pcn x n + (if x.testBit n = true then 1 else 0) := by
  show pcn x n + x / 2 ^ n % 2 = _
  rw [Nat.testBit_eq_decide_div_mod_eq]
  by_cases h : x / 2 ^ n % 2 = 1
  · simp [h]
  · have : x / 2 ^ n % 2 = 0 := by omega
    simp [this]
/-- bitCount over Nat -/
def bcN (x : Nat) : Nat :=
  let a := x - (x / 2 &&& 1431655765)
  let b := (a &&& 858993459) + (a / 4 &&& 858993459)
  let c := (b + b / 16) &&& 252645135
  let d := c + c / 256
  let e := d + d / 65536
  e &&& 63
theorem bcN_eq {x : Nat} (h : x < 2 ^ 16) : bcnt (nI x) = nI (bcN x) := by
  have sh : ∀ {n : Nat} (k p : Nat), n < 2 ^ 31 → (((nI k).toUInt32 &&& Int32.toUInt32 31).toBitVec % 32).toNat = k → 2 ^ k = p → ((nI n).toUInt32 >>> ((nI k).toUInt32 &&& Int32.toUInt32 31)).toInt32 = nI (n / p) := fun k p hn hk hp => by rw [pk_ushrN (by omega) _ k hk, hp]
  have h1 : x / 2 &&& 1431655765 ≤ x := Nat.le_trans Nat.and_le_left (Nat.div_le_self _ _)
  have ha : x - (x / 2 &&& 1431655765) < 2 ^ 16 := by omega
  generalize ea : x - (x / 2 &&& 1431655765) = a at ha
  have hb : (a &&& 858993459) + (a / 4 &&& 858993459) < 2 ^ 17 := by
    have := Nat.and_le_left (n := a) (m := 858993459)
    have := Nat.and_le_left (n := a / 4) (m := 858993459)
    omega
  generalize eb : (a &&& 858993459) + (a / 4 &&& 858993459) = b at hb
  have hc : (b + b / 16) &&& 252645135 < 2 ^ 18 := by
    have := Nat.and_le_left (n := b + b / 16) (m := 252645135)
    omega
  generalize ec : (b + b / 16) &&& 252645135 = c at hc
  have e0 : bcN x = (c + c / 256 + (c + c / 256) / 65536) &&& 63 := by
    unfold bcN
    rw [ea]
    show (_ + _ &&& 63) = _
    rw [eb, ec]
  rw [e0]
  unfold bcnt
  dsimp only
  rw [sh 1 2 (by omega) (by decide +kernel) (by decide), nI_and (by omega) (by omega), pk_sub h1, ea, sh 2 4 (by omega) (by decide +kernel) (by decide), nI_and (by omega) (by omega), nI_and (by omega) (by omega), nI_add, eb, sh 4 16 (by omega) (by decide +kernel) (by decide), nI_add, nI_and (by omega) (by omega), ec, sh 8 256 (by omega) (by decide +kernel) (by decide), nI_add, sh 16 65536 (by omega) (by decide +kernel) (by decide), nI_add, nI_and (by omega) (by omega)]
theorem and_sp {a b c d : Nat} (hb : b < 256) (hd : d < 256) : (256 * a + b) &&& (256 * c + d) = 256 * (a &&& c) + (b &&& d) := by
  have hbd : b &&& d < 2 ^ 8 := Nat.lt_of_le_of_lt Nat.and_le_left hb
  apply Nat.eq_of_testBit_eq
  intro i
  rw [Nat.testBit_and, show (256 : Nat) = 2 ^ 8 from rfl, Nat.testBit_two_pow_mul_add _ hb, Nat.testBit_two_pow_mul_add _ hd, Nat.testBit_two_pow_mul_add _ hbd]
  split
  · rw [Nat.testBit_and]
  · rw [Nat.testBit_and]
def fA (a : Nat) : Nat := a - (a / 2 &&& 1431655765)
def fB (a : Nat) : Nat := (a &&& 858993459) + (a / 4 &&& 858993459)
def fC (b : Nat) : Nat := (b + b / 16) &&& 252645135
theorem bcN_s (x : Nat) : bcN x = (fC (fB (fA x)) + fC (fB (fA x)) / 256 + (fC (fB (fA x)) + fC (fB (fA x)) / 256) / 65536) &&& 63 := rfl
theorem d1 : ∀ a, a < 256 → a / 2 &&& 5592405 = a / 2 &&& 1431655765 := by decide +kernel
theorem d2 : ∀ e, e < 2 → ∀ b, b < 256 → (128 * e + b / 2) &&& 85 = b / 2 &&& 1431655765 := by decide +kernel
theorem d3 : ∀ q, q < 256 → q &&& 51 = q &&& 858993459 ∧ q &&& 3355443 = q &&& 858993459 ∧ q / 4 &&& 3355443 = q / 4 &&& 858993459 := by decide +kernel
theorem d3b : ∀ e, e < 4 → ∀ q, q < 256 → (64 * e + q / 4) &&& 51 = q / 4 &&& 858993459 := by decide +kernel
theorem d4 : ∀ u, u < 69 → (u + u / 16) &&& 986895 = (u + u / 16) &&& 252645135 := by decide +kernel
theorem d4b : ∀ e, e < 16 → ∀ v, v < 69 → (v + 16 * e + v / 16) &&& 15 = (v + v / 16) &&& 252645135 := by decide +kernel
theorem d5 : ∀ a, a < 256 → fB (fA a) < 69 ∧ fB (fA a) % 16 ≤ 4 ∧ fC (fB (fA a)) = pcn a 8 ∧ pcn a 8 ≤ 8 := by decide +kernel
theorem d6 : ∀ a, a < 9 → ∀ b, b < 9 → (256 * a + b + a) &&& 63 = a + b := by decide +kernel
theorem fA_sp {a b : Nat} (ha : a < 256) (hb : b < 256) : fA (256 * a + b) = 256 * fA a + fA b := by
  have e : (256 * a + b) / 2 = 256 * (a / 2) + (128 * (a % 2) + b / 2) := by omega
  have e2 : (256 * a + b) / 2 &&& 1431655765 = 256 * (a / 2 &&& 1431655765) + (b / 2 &&& 1431655765) := by
    have h := and_sp (a := a / 2) (b := 128 * (a % 2) + b / 2) (c := 5592405) (d := 85) (by omega) (by decide)
    rw [show 256 * 5592405 + 85 = 1431655765 from rfl] at h
    rw [e, h, d1 a ha, d2 _ (by omega) b hb]
  have h1 : a / 2 &&& 1431655765 ≤ a := Nat.le_trans Nat.and_le_left (Nat.div_le_self _ _)
  have h2 : b / 2 &&& 1431655765 ≤ b := Nat.le_trans Nat.and_le_left (Nat.div_le_self _ _)
  unfold fA
  rw [e2]
  omega
theorem fB_sp {p q : Nat} (hp : p < 256) (hq : q < 256) : fB (256 * p + q) = 256 * fB p + fB q := by
  have e : (256 * p + q) / 4 = 256 * (p / 4) + (64 * (p % 4) + q / 4) := by omega
  have h1 := and_sp (a := p) (b := q) (c := 3355443) (d := 51) hq (by decide)
  have h2 := and_sp (a := p / 4) (b := 64 * (p % 4) + q / 4) (c := 3355443) (d := 51) (by omega) (by decide)
  rw [show 256 * 3355443 + 51 = 858993459 from rfl] at h1 h2
  rw [(d3 p hp).2.1, (d3 q hq).1] at h1
  rw [(d3 p hp).2.2, d3b _ (by omega) q hq] at h2
  unfold fB
  rw [e, h1, h2]
  omega
theorem fC_sp {u v : Nat} (hu : u < 69) (hv : v < 69) (hu4 : u % 16 ≤ 4) : fC (256 * u + v) = 256 * fC u + fC v := by
  have e : 256 * u + v + (256 * u + v) / 16 = 256 * (u + u / 16) + (v + 16 * (u % 16) + v / 16) := by omega
  have h1 := and_sp (a := u + u / 16) (b := v + 16 * (u % 16) + v / 16) (c := 986895) (d := 15) (by omega) (by decide)
  rw [show 256 * 986895 + 15 = 252645135 from rfl, d4 u hu, d4b _ (by omega) v hv] at h1
  unfold fC
  rw [e, h1]
theorem pcn_lo {a b : Nat} (hb : b < 256) (n : Nat) (hn : n ≤ 8) : pcn (256 * a + b) n = pcn b n := by
  induction n with
  | zero => rfl
  | succ n ih =>
    rw [pcn_s, pcn_s, ih (by omega), show (256 : Nat) = 2 ^ 8 from rfl, Nat.testBit_two_pow_mul_add _ hb, if_pos (show n < 8 by omega)]
theorem pcn_up {a b : Nat} (hb : b < 256) (n : Nat) : pcn (256 * a + b) (8 + n) = pcn b 8 + pcn a n := by
  induction n with
  | zero => exact pcn_lo hb 8 (Nat.le_refl _)
  | succ n ih =>
    rw [show 8 + (n + 1) = 8 + n + 1 from rfl, pcn_s (256 * a + b) (8 + n), pcn_s a n, ih, show (256 : Nat) = 2 ^ 8 from rfl, Nat.testBit_two_pow_mul_add _ hb, if_neg (show ¬ 8 + n < 8 by omega), show 8 + n - 8 = n by omega, Nat.add_assoc]
theorem bcnt_nI {x : Nat} (h : x < 2 ^ 16) : bcnt (nI x) = nI (pcn x 16) := by
  have ha : x / 256 < 256 := by omega
  have hb : x % 256 < 256 := by omega
  obtain ⟨a1, a2, a3, a4⟩ := d5 _ ha
  obtain ⟨b1, b2, b3, b4⟩ := d5 _ hb
  have ex : x = 256 * (x / 256) + x % 256 := by omega
  have hA : ∀ y, fA y ≤ y := fun y => Nat.sub_le _ _
  have h1 := hA (x / 256)
  have h2 := hA (x % 256)
  have hc : fC (fB (fA x)) = 256 * pcn (x / 256) 8 + pcn (x % 256) 8 := by
    rw [ex, fA_sp ha hb, fB_sp (by omega) (by omega), fC_sp a1 b1 a2, a3, b3, ← ex]
  have hp : pcn x 16 = pcn (x % 256) 8 + pcn (x / 256) 8 := by
    have := pcn_up (a := x / 256) hb 8
    rwa [← ex] at this
  rw [bcN_eq h, bcN_s, hc, hp]
  have e1 : (256 * pcn (x / 256) 8 + pcn (x % 256) 8) / 256 = pcn (x / 256) 8 := by omega
  have e2 : (256 * pcn (x / 256) 8 + pcn (x % 256) 8 + pcn (x / 256) 8) / 65536 = 0 := by omega
  rw [e1, e2, Nat.add_zero, d6 _ (by omega) _ (by omega), Nat.add_comm]
/-! two numbers in a long -/
theorem bm64 {x : Int} (h1 : -9223372036854775808 ≤ x) (h2 : x < 9223372036854775808) : x.bmod (2 ^ 64) = x := by
  unfold Int.bmod
  dsimp only
  rw [show ((2 ^ 64 : Nat) : Int) = 18446744073709551616 from by decide]
  split <;> omega
theorem bm32 {h s : Int} (h1 : 0 ≤ s) (h2 : s < 2147483648) : (h * 4294967296 + s).bmod (2 ^ 32) = s := by
  unfold Int.bmod
  dsimp only
  rw [show ((2 ^ 32 : Nat) : Int) = 4294967296 from by decide]
  split <;> omega
theorem bm32i {h : Int} (h1 : -2147483648 ≤ h) (h2 : h < 2147483648) : h.bmod (2 ^ 32) = h := by
  unfold Int.bmod
  dsimp only
  rw [show ((2 ^ 32 : Nat) : Int) = 4294967296 from by decide]
  split <;> omega
theorem c32 : ((nI 32).toInt64 &&& 63).toBitVec.smod 64 = 32#64 := by decide +kernel
theorem shl32 (h : Int32) : (h.toInt64 <<< ((nI 32).toInt64 &&& 63)).toInt = h.toInt * 4294967296 := by
  have h1 := Int32.le_toInt h
  have h2 := Int32.toInt_lt h
  show (h.toInt64 <<< ((nI 32).toInt64 &&& 63)).toBitVec.toInt = _
  rw [Int64.toBitVec_shiftLeft, c32, show h.toInt64.toBitVec <<< (32#64) = h.toInt64.toBitVec <<< (32 : Nat) from rfl, BitVec.shiftLeft_eq_mul_twoPow, BitVec.toInt_mul, show (BitVec.twoPow 64 32).toInt = 4294967296 from by decide +kernel, show h.toInt64.toBitVec.toInt = h.toInt from Int32.toInt_toInt64 h]
  exact bm64 (by omega) (by omega)
theorem pkL_toInt (h s : Int32) (hs : 0 ≤ s.toInt) : (pkL h s).toInt = h.toInt * 4294967296 + s.toInt := by
  have h1 := Int32.le_toInt h
  have h2 := Int32.toInt_lt h
  have h3 := Int32.toInt_lt s
  unfold pkL
  rw [Int64.toInt_add, shl32, Int32.toInt_toInt64]
  exact bm64 (by omega) (by omega)
theorem pkL_lt {h s h2 s2 : Int32} (hs : 0 ≤ s.toInt) (hs2 : 0 ≤ s2.toInt) : pkL h s < pkL h2 s2 ↔ (h < h2 ∨ h = h2 ∧ s < s2) := by
  have a1 := Int32.toInt_lt s
  have a2 := Int32.toInt_lt s2
  rw [Int64.lt_iff_toInt_lt, pkL_toInt _ _ hs, pkL_toInt _ _ hs2, Int32.lt_iff_toInt_lt, Int32.lt_iff_toInt_lt, ← Int32.toInt_inj]
  omega
theorem pkL_lo {h s : Int32} (hs : 0 ≤ s.toInt) : (pkL h s).toInt32 = s := by
  have a1 := Int32.toInt_lt s
  apply Int32.toInt_inj.mp
  rw [Int64.toInt_toInt32, pkL_toInt _ _ hs]
  exact bm32 hs (by omega)
theorem pkL_hi {h s : Int32} (hs : 0 ≤ s.toInt) : (pkL h s >>> ((nI 32).toInt64 &&& 63)).toInt32 = h := by
  have a1 := Int32.toInt_lt s
  have h1 := Int32.le_toInt h
  have h2 := Int32.toInt_lt h
  apply Int32.toInt_inj.mp
  rw [Int64.toInt_toInt32, show (pkL h s >>> ((nI 32).toInt64 &&& 63)).toInt = ((pkL h s).toBitVec.sshiftRight' (((nI 32).toInt64 &&& 63).toBitVec.smod 64)).toInt from rfl, c32, show (pkL h s).toBitVec.sshiftRight' (32#64) = (pkL h s).toBitVec.sshiftRight 32 from rfl, BitVec.toInt_sshiftRight, show (pkL h s).toBitVec.toInt = (pkL h s).toInt from rfl, pkL_toInt _ _ hs, Int.shiftRight_eq_div_pow, show (h.toInt * 4294967296 + s.toInt) / ((2 ^ 32 : Nat) : Int) = h.toInt from by rw [show ((2 ^ 32 : Nat) : Int) = 4294967296 from by decide]; omega]
  exact bm32i (by omega) (by omega)
