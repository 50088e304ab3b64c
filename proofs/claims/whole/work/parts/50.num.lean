/-! numbers: bits, counts of bits, two numbers in a long -/
theorem bitm_nI : ∀ w : Nat, w < 16 → bitm w = nI (2 ^ w) := by decide +kernel
theorem nI_and {a b : Nat} (ha : a < 2 ^ 32) (hb : b < 2 ^ 32) : nI a &&& nI b = nI (a &&& b) := by
  apply Int32.toBitVec_inj.mp
  apply BitVec.eq_of_toNat_eq
  rw [show (nI a &&& nI b).toBitVec = (nI a).toBitVec &&& (nI b).toBitVec from rfl, BitVec.toNat_and, pk_tn ha, pk_tn hb, pk_tn (Nat.lt_of_le_of_lt Nat.and_le_left ha)]
theorem nI_or {a b : Nat} (ha : a < 2 ^ 16) (hb : b < 2 ^ 16) : nI a ||| nI b = nI (a ||| b) := by
  apply Int32.toBitVec_inj.mp
  apply BitVec.eq_of_toNat_eq
  rw [show (nI a ||| nI b).toBitVec = (nI a).toBitVec ||| (nI b).toBitVec from rfl, BitVec.toNat_or, pk_tn (by omega), pk_tn (by omega), pk_tn (Nat.lt_of_lt_of_le (Nat.or_lt_two_pow ha hb) (by decide))]
theorem nI_andL {m : Nat} (hm : m < 2 ^ 16) (y : Int32) : ∃ q, q < 2 ^ 16 ∧ nI m &&& y = nI q := by
  have hl : m &&& y.toBitVec.toNat < 2 ^ 16 := Nat.lt_of_le_of_lt Nat.and_le_left hm
  refine ⟨m &&& y.toBitVec.toNat, hl, ?_⟩
  apply Int32.toBitVec_inj.mp
  apply BitVec.eq_of_toNat_eq
  rw [show (nI m &&& y).toBitVec = (nI m).toBitVec &&& y.toBitVec from rfl, BitVec.toNat_and, pk_tn (by omega), pk_tn (by omega)]
theorem sh_k : ∀ k : Nat, k < 16 → ((nI k &&& 31).toBitVec.smod 32).toNat = k := by decide +kernel
theorem bit_at {m k : Nat} (hm : m < 2 ^ 16) (hk : k < 16) : (nI m >>> (nI k &&& 31) &&& nI 1 = nI 1) ↔ m.testBit k = true := by
  rw [pk_shrN (by omega) _ k (sh_k k hk), pk_andN (Nat.lt_of_le_of_lt (Nat.div_le_self _ _) (by omega)) 1 (by decide +kernel), nI_eq (by omega) (by decide), Nat.testBit_eq_decide_div_mod_eq]
  simp
def pcn (x : Nat) : Nat → Nat
  | 0 => 0
  | n + 1 => pcn x n + (if x.testBit n = true then 1 else 0)
set_option maxRecDepth 100000 in
theorem bcnt_hl : ∀ a : Nat, a < 256 → ∀ b : Nat, b < 256 → bcnt (nI (256 * a + b)) = nI (pcn (256 * a + b) 16) := by decide +kernel
theorem bcnt_nI {x : Nat} (h : x < 2 ^ 16) : bcnt (nI x) = nI (pcn x 16) := by
  have := bcnt_hl (x / 256) (by omega) (x % 256) (by omega)
  rwa [show 256 * (x / 256) + x % 256 = x by omega] at this
/-! two numbers in a long -/
theorem c32 : ((nI 32).toInt64 &&& 63).toBitVec.smod 64 = 32#64 := by decide +kernel
theorem shl32 (h : Int32) : (h.toInt64 <<< ((nI 32).toInt64 &&& 63)).toInt = h.toInt * 4294967296 := by
  have h1 := Int32.le_toInt h
  have h2 := Int32.toInt_lt h
  show (h.toInt64 <<< ((nI 32).toInt64 &&& 63)).toBitVec.toInt = _
  rw [Int64.toBitVec_shiftLeft, c32, show h.toInt64.toBitVec <<< (32#64) = h.toInt64.toBitVec <<< (32 : Nat) from rfl, BitVec.shiftLeft_eq_mul_twoPow, BitVec.toInt_mul, show (BitVec.twoPow 64 32).toInt = 4294967296 from by decide +kernel, show h.toInt64.toBitVec.toInt = h.toInt from Int32.toInt_toInt64 h]
  unfold Int.bmod
  omega
theorem pkL_toInt (h s : Int32) (hs : 0 ≤ s.toInt) : (pkL h s).toInt = h.toInt * 4294967296 + s.toInt := by
  have h1 := Int32.le_toInt h
  have h2 := Int32.toInt_lt h
  have h3 := Int32.toInt_lt s
  unfold pkL
  rw [Int64.toInt_add, shl32, Int32.toInt_toInt64]
  unfold Int.bmod
  omega
theorem pkL_lt {h s h2 s2 : Int32} (hs : 0 ≤ s.toInt) (hs2 : 0 ≤ s2.toInt) : pkL h s < pkL h2 s2 ↔ (h < h2 ∨ h = h2 ∧ s < s2) := by
  have a1 := Int32.toInt_lt s
  have a2 := Int32.toInt_lt s2
  rw [Int64.lt_iff_toInt_lt, pkL_toInt _ _ hs, pkL_toInt _ _ hs2, Int32.lt_iff_toInt_lt, Int32.lt_iff_toInt_lt, ← Int32.toInt_inj]
  omega
theorem pkL_lo {h s : Int32} (hs : 0 ≤ s.toInt) : (pkL h s).toInt32 = s := by
  have a1 := Int32.toInt_lt s
  apply Int32.toInt_inj.mp
  rw [Int64.toInt_toInt32, pkL_toInt _ _ hs]
  unfold Int.bmod
  omega
theorem pkL_hi {h s : Int32} (hs : 0 ≤ s.toInt) : (pkL h s >>> ((nI 32).toInt64 &&& 63)).toInt32 = h := by
  have a1 := Int32.toInt_lt s
  have h1 := Int32.le_toInt h
  have h2 := Int32.toInt_lt h
  apply Int32.toInt_inj.mp
  rw [Int64.toInt_toInt32, show (pkL h s >>> ((nI 32).toInt64 &&& 63)).toInt = ((pkL h s).toBitVec.sshiftRight' (((nI 32).toInt64 &&& 63).toBitVec.smod 64)).toInt from rfl, c32, show (pkL h s).toBitVec.sshiftRight' (32#64) = (pkL h s).toBitVec.sshiftRight 32 from rfl, BitVec.toInt_sshiftRight, show (pkL h s).toBitVec.toInt = (pkL h s).toInt from rfl, pkL_toInt _ _ hs, Int.shiftRight_eq_div_pow]
  unfold Int.bmod
  omega
