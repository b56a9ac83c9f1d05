/-! bits -/
theorem shamt : ∀ s : Nat, s < 32 → ((iI ((s : Nat) : Int) &&& 31).toBitVec.smod 32).toNat = s := by decide +kernel
theorem ushamt : ∀ s : Nat, s < 32 → ((iI ((s : Nat) : Int)).toUInt32 &&& Int32.toUInt32 31).toBitVec.toNat % 32 = s := by decide +kernel
theorem bv_iI {x : Int} (h : rg x) : (iI x).toBitVec.toInt = x := iI_toInt h
theorem iI_shr {x : Int} {s : Nat} (hx : rg x) (hs : s < 32) : iI x >>> (iI ((s : Nat) : Int) &&& 31) = iI (x / 2 ^ s) := by
  have hb : rg (x / 2 ^ s) := by
    unfold rg at *
    have hp : (0 : Int) < 2 ^ s := Int.pow_pos (by decide)
    have h1 : (1 : Int) ≤ 2 ^ s := hp
    constructor
    · refine Int.le_ediv_of_mul_le hp ?_
      have : (-2147483648 : Int) * 2 ^ s ≤ -2147483648 * 1 := Int.mul_le_mul_of_nonpos_left (by decide) h1
      omega
    · by_cases h0 : 0 ≤ x
      · have := Int.ediv_le_self (2 ^ s) h0; omega
      · have := Int.ediv_neg_of_neg_of_pos (by omega : x < 0) hp; omega
  rw [← Int32.toInt_inj, iI_toInt hb]
  show (BitVec.sshiftRight' (iI x).toBitVec ((iI ((s : Nat) : Int) &&& 31).toBitVec.smod 32)).toInt = _
  rw [BitVec.toInt_sshiftRight', shamt s hs, bv_iI hx, Int.shiftRight_eq_div_pow]
  simp
theorem iI_m1 {x : Int} : iI x &&& iI 1 = iI (x % 2) := iI_mask 1 (by decide)
theorem iI_m255 {x : Int} : iI x &&& iI 255 = iI (x % 256) := iI_mask 8 (by decide)
theorem iI_nat {n : Nat} (h : n < 2 ^ 32) : (iI ((n : Nat) : Int)).toBitVec.toNat = n := by
  rw [iI_bv, BitVec.ofInt_natCast, BitVec.toNat_ofNat, Nat.mod_eq_of_lt h]
theorem iI_ext {a : Int32} {n : Nat} (h : a.toBitVec.toNat = n) (hn : n < 2 ^ 32) : a = iI ((n : Nat) : Int) := by
  rw [← Int32.toBitVec_inj]
  apply BitVec.eq_of_toNat_eq
  rw [h, iI_nat hn]
theorem iI_or {a b : Nat} (ha : a < 2 ^ 31) (hb : b < 2 ^ 31) : iI ((a : Nat) : Int) ||| iI ((b : Nat) : Int) = iI ((a ||| b : Nat) : Int) := by
  refine iI_ext ?_ (Nat.or_lt_two_pow (by omega) (by omega))
  rw [Int32.toBitVec_or, BitVec.toNat_or, iI_nat (by omega), iI_nat (by omega)]
theorem iI_and {a b : Nat} (ha : a < 2 ^ 31) (hb : b < 2 ^ 31) : iI ((a : Nat) : Int) &&& iI ((b : Nat) : Int) = iI ((a &&& b : Nat) : Int) := by
  refine iI_ext ?_ (Nat.and_lt_two_pow _ (by omega))
  rw [Int32.toBitVec_and, BitVec.toNat_and, iI_nat (by omega), iI_nat (by omega)]
theorem iI_xor {a b : Nat} (ha : a < 2 ^ 31) (hb : b < 2 ^ 31) : iI ((a : Nat) : Int) ^^^ iI ((b : Nat) : Int) = iI ((a ^^^ b : Nat) : Int) := by
  refine iI_ext ?_ (Nat.xor_lt_two_pow (by omega) (by omega))
  rw [Int32.toBitVec_xor, BitVec.toNat_xor, iI_nat (by omega), iI_nat (by omega)]
theorem iI_shl1 : ∀ s : Nat, s < 31 → iI 1 <<< (iI ((s : Nat) : Int) &&& 31) = iI ((2 ^ s : Nat) : Int) := by decide +kernel
/-- an unsigned shift, and then a byte -/
theorem iI_ushr {x : Int} {s : Nat} (hs : s < 32) : ((iI x).toUInt32 >>> ((iI ((s : Nat) : Int)).toUInt32 &&& Int32.toUInt32 31)).toInt32 = iI (x % 4294967296 / 2 ^ s) := by
  have nn : 0 ≤ x % 4294967296 := Int.emod_nonneg _ (by decide)
  have lt : x % 4294967296 < 4294967296 := Int.emod_lt_of_pos _ (by decide)
  obtain ⟨n, hn⟩ : ∃ n : Nat, x % 4294967296 = (n : Int) := ⟨(x % 4294967296).toNat, by omega⟩
  have e : x % 4294967296 / 2 ^ s = ((n / 2 ^ s : Nat) : Int) := by rw [hn]; simp
  rw [e]
  have hlt : n / 2 ^ s < 2 ^ 32 := Nat.lt_of_le_of_lt (Nat.div_le_self _ _) (by omega)
  refine iI_ext ?_ hlt
  show ((iI x).toBitVec >>> (((iI ((s : Nat) : Int)).toUInt32 &&& Int32.toUInt32 31).toBitVec % 32)).toNat = _
  rw [BitVec.ushiftRight_eq', BitVec.toNat_ushiftRight, Nat.shiftRight_eq_div_pow, BitVec.toNat_umod]
  rw [show (32 : BitVec 32).toNat = 32 from rfl, ushamt s hs, iI_bv, BitVec.toNat_ofInt]
  congr 1
  rw [show ((2 ^ 32 : Nat) : Int) = 4294967296 from rfl, hn]
  rfl
