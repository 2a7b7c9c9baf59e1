/-! numbers -/
def InR (z : Int) : Prop := -2147483648 ≤ z ∧ z < 2147483648
theorem wI {z : Int} (h : InR z) : (Int32.ofInt z).toInt = z := by
  unfold InR at h
  rw [Int32.toInt_ofInt]
  unfold Int32.size
  exact Int.bmod_eq_of_le_mul_two (by omega) (by omega)
theorem wI_add (a b : Int) : Int32.ofInt a + Int32.ofInt b = Int32.ofInt (a + b) := (Int32.ofInt_add a b).symm
theorem wI_sub (a b : Int) : Int32.ofInt a - Int32.ofInt b = Int32.ofInt (a - b) := (Int32.ofInt_sub a b).symm
theorem wI_mul (a b : Int) : Int32.ofInt a * Int32.ofInt b = Int32.ofInt (a * b) := (Int32.ofInt_mul a b).symm
theorem wI_neg (a : Int) : -(Int32.ofInt a) = Int32.ofInt (-a) := (Int32.ofInt_neg a).symm
theorem wI_of (x : Int32) : Int32.ofInt x.toInt = x := Int32.ofInt_toInt x
theorem wI_in (x : Int32) : InR x.toInt := by
  have h1 := Int32.le_toInt x
  have h2 := Int32.toInt_lt x
  exact ⟨by omega, by omega⟩
theorem wI_lt {a b : Int} (ha : InR a) (hb : InR b) : Int32.ofInt a < Int32.ofInt b ↔ a < b := by rw [Int32.lt_iff_toInt_lt, wI ha, wI hb]
theorem wI_le {a b : Int} (ha : InR a) (hb : InR b) : Int32.ofInt a ≤ Int32.ofInt b ↔ a ≤ b := by rw [Int32.le_iff_toInt_le, wI ha, wI hb]
theorem wI_eq {a b : Int} (ha : InR a) (hb : InR b) : Int32.ofInt a = Int32.ofInt b ↔ a = b := by rw [← Int32.toInt_inj, wI ha, wI hb]
theorem wI_0 : (0 : Int32) = Int32.ofInt 0 := rfl
theorem wI_cl {z : Int} {n : Nat} (h0 : 0 ≤ z) (hn : z < n) (hN : n < 2147483648) : (Int32.ofInt z).toNatClampNeg = z.toNat := by
  rw [← Int32.toNat_toInt, wI ⟨by omega, by omega⟩]
theorem wI_vp {z : Int} {n : Nat} (h0 : 0 ≤ z) (hn : z < n) (hN : n < 2147483648) : vp_in (Int32.ofInt z) n := by
  refine vp_in_iff.mpr ?_
  rw [wI ⟨by omega, by omega⟩]
  exact ⟨h0, hn⟩
theorem wI_b8 {n : Int} (h : -128 ≤ n ∧ n < 128) : (Int8.ofInt n).toInt32 = Int32.ofInt n := by
  rw [← Int32.toInt_inj, Int8.toInt_toInt32, wI ⟨by omega, by omega⟩, Int8.toInt_ofInt]
  unfold Int8.size
  exact Int.bmod_eq_of_le_mul_two (by omega) (by omega)
theorem wI_b16 {n : Int} (h : -32768 ≤ n ∧ n < 32768) : (Int16.ofInt n).toInt32 = Int32.ofInt n := by
  rw [← Int32.toInt_inj, Int16.toInt_toInt32, wI ⟨by omega, by omega⟩, Int16.toInt_ofInt]
  unfold Int16.size
  exact Int.bmod_eq_of_le_mul_two (by omega) (by omega)
theorem wL_and (a b : BitVec 64) : Int64.ofBitVec a &&& Int64.ofBitVec b = Int64.ofBitVec (a &&& b) := rfl
theorem wL_or (a b : BitVec 64) : Int64.ofBitVec a ||| Int64.ofBitVec b = Int64.ofBitVec (a ||| b) := rfl
theorem wL_xor (a b : BitVec 64) : Int64.ofBitVec a ^^^ Int64.ofBitVec b = Int64.ofBitVec (a ^^^ b) := rfl
theorem wL_eq {a b : BitVec 64} : Int64.ofBitVec a = Int64.ofBitVec b ↔ a = b := ⟨fun h => by have := congrArg Int64.toBitVec h; simpa using this, fun h => by rw [h]⟩
theorem wL_amt : ∀ k, k < 64 → ((nI k).toInt64.toUInt64 &&& Int64.toUInt64 63).toBitVec = BitVec.ofNat 64 k := by decide +kernel
theorem wL_amt2 : ∀ k, k < 64 → ((nI k).toInt64 &&& 63).toBitVec = BitVec.ofNat 64 k := by decide +kernel
theorem wI_amt : ∀ k, k < 32 → ((nI k) &&& 31).toBitVec = BitVec.ofNat 32 k := by decide +kernel
theorem wI_amtU : ∀ k, k < 32 → ((nI k).toUInt32 &&& Int32.toUInt32 31).toBitVec = BitVec.ofNat 32 k := by decide +kernel
theorem wL_ushr (a : BitVec 64) {n : Int} (h0 : 0 ≤ n) (h1 : n < 64) : ((Int64.ofBitVec a).toUInt64 >>> ((Int32.ofInt n).toInt64.toUInt64 &&& Int64.toUInt64 63)).toInt64 = Int64.ofBitVec (a >>> n.toNat) := by
  obtain ⟨k, rfl⟩ := Int.eq_ofNat_of_zero_le h0
  have hk : k < 64 := by omega
  have e : Int32.ofInt (k : Int) = nI k := rfl
  have e2 := wL_amt k hk
  rw [e]
  generalize (nI k).toInt64.toUInt64 &&& Int64.toUInt64 63 = u at e2 ⊢
  apply Int64.toBitVec_inj.mp
  show ((Int64.ofBitVec a).toUInt64 >>> u).toBitVec = a >>> k
  rw [UInt64.toBitVec_shiftRight, e2]
  show a >>> (BitVec.ofNat 64 k % 64#64) = a >>> k
  have e3 : ∀ k, k < 64 → (BitVec.ofNat 64 k % 64#64).toNat = k := by decide +kernel
  rw [BitVec.ushiftRight_eq', e3 k hk]
theorem wL_shl (a : BitVec 64) {n : Int} (h0 : 0 ≤ n) (h1 : n < 64) : Int64.ofBitVec a <<< ((Int32.ofInt n).toInt64 &&& 63) = Int64.ofBitVec (a <<< n.toNat) := by
  obtain ⟨k, rfl⟩ := Int.eq_ofNat_of_zero_le h0
  have hk : k < 64 := by omega
  have e : Int32.ofInt (k : Int) = nI k := rfl
  have e2 := wL_amt2 k hk
  rw [e]
  generalize (nI k).toInt64 &&& 63 = u at e2 ⊢
  apply Int64.toBitVec_inj.mp
  rw [Int64.toBitVec_shiftLeft, e2]
  show a <<< ((BitVec.ofNat 64 k).smod 64) = a <<< k
  have e3 : ∀ k, k < 64 → ((BitVec.ofNat 64 k).smod 64).toNat = k := by decide +kernel
  rw [BitVec.shiftLeft_eq', e3 k hk]
theorem wL_shr (a : BitVec 64) {n : Int} (h0 : 0 ≤ n) (h1 : n < 64) : Int64.ofBitVec a >>> ((Int32.ofInt n).toInt64 &&& 63) = Int64.ofBitVec (a.sshiftRight n.toNat) := by
  obtain ⟨k, rfl⟩ := Int.eq_ofNat_of_zero_le h0
  have hk : k < 64 := by omega
  have e : Int32.ofInt (k : Int) = nI k := rfl
  have e2 := wL_amt2 k hk
  rw [e]
  generalize (nI k).toInt64 &&& 63 = u at e2 ⊢
  apply Int64.toBitVec_inj.mp
  rw [Int64.toBitVec_shiftRight, e2]
  show a.sshiftRight' ((BitVec.ofNat 64 k).smod 64) = a.sshiftRight k
  have e3 : ∀ k, k < 64 → ((BitVec.ofNat 64 k).smod 64).toNat = k := by decide +kernel
  rw [BitVec.sshiftRight_eq', e3 k hk]
theorem wI_shl (a : Int) {n : Int} (h0 : 0 ≤ n) (h1 : n < 32) : Int32.ofInt a <<< (Int32.ofInt n &&& 31) = Int32.ofInt (a * 2 ^ n.toNat) := by
  obtain ⟨k, rfl⟩ := Int.eq_ofNat_of_zero_le h0
  have hk : k < 32 := by omega
  have e : Int32.ofInt (k : Int) = nI k := rfl
  have e2 := wI_amt k hk
  rw [e]
  generalize (nI k) &&& 31 = u at e2 ⊢
  apply Int32.toBitVec_inj.mp
  rw [Int32.toBitVec_shiftLeft, e2]
  have e3 : ∀ k, k < 32 → ((BitVec.ofNat 32 k).smod 32).toNat = k := by decide +kernel
  show (BitVec.ofInt 32 a) <<< ((BitVec.ofNat 32 k).smod 32) = BitVec.ofInt 32 (a * 2 ^ k)
  rw [BitVec.shiftLeft_eq', e3 k hk]
  have e4 : ∀ k, k < 32 → BitVec.twoPow 32 k = BitVec.ofInt 32 (2 ^ k) := by decide +kernel
  rw [BitVec.shiftLeft_eq_mul_twoPow, BitVec.ofInt_mul, e4 k hk]
theorem wI_shr (a : Int) {n : Int} (h0 : 0 ≤ n) (h1 : n < 32) (ha : 0 ≤ a) (hb : a < 2147483648) : Int32.ofInt a >>> (Int32.ofInt n &&& 31) = Int32.ofInt (a / 2 ^ n.toNat) := by
  obtain ⟨k, rfl⟩ := Int.eq_ofNat_of_zero_le h0
  have hk : k < 32 := by omega
  have e : Int32.ofInt (k : Int) = nI k := rfl
  have e2 := wI_amt k hk
  rw [e]
  generalize (nI k) &&& 31 = u at e2 ⊢
  apply Int32.toBitVec_inj.mp
  rw [Int32.toBitVec_shiftRight, e2]
  have e3 : ∀ k, k < 32 → ((BitVec.ofNat 32 k).smod 32).toNat = k := by decide +kernel
  show (BitVec.ofInt 32 a).sshiftRight' ((BitVec.ofNat 32 k).smod 32) = BitVec.ofInt 32 (a / 2 ^ k)
  rw [BitVec.sshiftRight_eq', e3 k hk]
  have ha2 : (BitVec.ofInt 32 a).toInt = a := wI ⟨by omega, hb⟩
  apply BitVec.eq_of_toInt_eq
  rw [BitVec.toInt_sshiftRight, ha2]
  rw [Int.shiftRight_eq_div_pow]
  symm
  have hp : (0 : Int) < 2 ^ k := Int.pow_pos (by omega)
  refine wI (z := a / 2 ^ k) ?_
  have h5 := Int.ediv_nonneg ha (Int.le_of_lt hp)
  have h6 := Int.ediv_le_self (2 ^ k) ha
  exact ⟨by omega, by omega⟩
theorem wI_ushr {a n : Int} (h0 : 0 ≤ n) (h1 : n < 32) (ha : 0 ≤ a) (hb : a < 2147483648) : ((Int32.ofInt a).toUInt32 >>> ((Int32.ofInt n).toUInt32 &&& Int32.toUInt32 31)).toInt32 = Int32.ofInt (a / 2 ^ n.toNat) := by
  obtain ⟨k, rfl⟩ := Int.eq_ofNat_of_zero_le h0
  obtain ⟨x, rfl⟩ := Int.eq_ofNat_of_zero_le ha
  have hk : k < 32 := by omega
  have e : Int32.ofInt (k : Int) = nI k := rfl
  have e3 : Int32.ofInt (x : Int) = nI x := rfl
  have e2 := wI_amtU k hk
  rw [e, e3]
  generalize (nI k).toUInt32 &&& Int32.toUInt32 31 = u at e2 ⊢
  apply Int32.toBitVec_inj.mp
  show ((nI x).toUInt32 >>> u).toBitVec = _
  rw [UInt32.toBitVec_shiftRight, e2]
  have e4 : ∀ k, k < 32 → (BitVec.ofNat 32 k % 32#32).toNat = k := by decide +kernel
  show (BitVec.ofNat 32 x) >>> (BitVec.ofNat 32 k % 32#32) = BitVec.ofInt 32 ((x : Int) / 2 ^ k)
  rw [BitVec.ushiftRight_eq', e4 k hk]
  have e5 : (x : Int) / 2 ^ k = ((x / 2 ^ k : Nat) : Int) := by simp
  rw [e5]
  apply BitVec.eq_of_toNat_eq
  rw [BitVec.toNat_ushiftRight, BitVec.toNat_ofNat, Nat.shiftRight_eq_div_pow]
  have e6 : x / 2 ^ k ≤ x := Nat.div_le_self _ _
  show _ = (BitVec.ofNat 32 (x / 2 ^ k)).toNat
  rw [BitVec.toNat_ofNat, Nat.mod_eq_of_lt (by omega), Nat.mod_eq_of_lt (by omega)]
