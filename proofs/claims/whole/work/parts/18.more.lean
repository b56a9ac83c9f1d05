/-! more rules -/
section RM
variable {xs : Nat → Int} {L d k pc : Nat} {ls st r : List Value} {sh : List (Nat × Nat)} {M : Nat → Nat → Int} {Q : Option Value → px_H → Prop}
theorem rr_idivP {x y : Int} (hf : px_fetch k pc = some (.idiv, 1)) (hx : rg x) (hy : rg y) (h0 : 0 ≤ x) (h1 : 0 < y) (G : px_R xs L d k (pc + 1, ls, .int (iI (x / y)) :: st, (sh, M)) Q) : px_R xs L d k (pc, ls, .int (iI y) :: .int (iI x) :: st, (sh, M)) Q := by
  refine rr_idiv hf hx hy (by omega) ?_
  rw [Int.tdiv_eq_ediv_of_nonneg h0]
  exact G
theorem rr_iremP {x y : Int} (hf : px_fetch k pc = some (.irem, 1)) (hx : rg x) (hy : rg y) (h0 : 0 ≤ x) (h1 : 0 < y) (G : px_R xs L d k (pc + 1, ls, .int (iI (x % y)) :: st, (sh, M)) Q) : px_R xs L d k (pc, ls, .int (iI y) :: .int (iI x) :: st, (sh, M)) Q := by
  refine rr_irem hf hx hy (by omega) ?_
  rw [Int.tmod_eq_emod_of_nonneg h0]
  exact G
theorem rr_ldivP {x y : Int} (hf : px_fetch k pc = some (.ldiv, 1)) (hx : rl x) (hy : rl y) (h0 : 0 ≤ x) (h1 : 0 < y) (G : px_R xs L d k (pc + 1, ls, .long (lI (x / y)) :: st, (sh, M)) Q) : px_R xs L d k (pc, ls, .long (lI y) :: .long (lI x) :: st, (sh, M)) Q := by
  refine rr_ldiv hf hx hy (by omega) ?_
  rw [Int.tdiv_eq_ediv_of_nonneg h0]
  exact G
theorem rr_lremP {x y : Int} (hf : px_fetch k pc = some (.lrem, 1)) (hx : rl x) (hy : rl y) (h0 : 0 ≤ x) (h1 : 0 < y) (G : px_R xs L d k (pc + 1, ls, .long (lI (x % y)) :: st, (sh, M)) Q) : px_R xs L d k (pc, ls, .long (lI y) :: .long (lI x) :: st, (sh, M)) Q := by
  refine rr_lrem hf hx hy (by omega) ?_
  rw [Int.tmod_eq_emod_of_nonneg h0]
  exact G
end RM
/-- away -/
def aw (p q : Int) : Int := ((p / 4 - q / 4).natAbs : Int) + ((p % 4 - q % 4).natAbs : Int)
theorem aw_rg {p q : Int} (hp : 0 ≤ p ∧ p < 16) (hq : 0 ≤ q ∧ q < 16) : 0 ≤ aw p q ∧ aw p q ≤ 6 := by unfold aw; omega
theorem iI_bv (x : Int) : (iI x).toBitVec = BitVec.ofInt 32 x := rfl
/-- masks of low bits -/
theorem iI_mask {x : Int} (m : Nat) (hm : m ≤ 31) : iI x &&& iI (2 ^ m - 1) = iI (x % 2 ^ m) := by
  rw [← Int32.toBitVec_inj, Int32.toBitVec_and, iI_bv, iI_bv, iI_bv]
  apply BitVec.eq_of_toNat_eq
  have hp : (2 : Int) ^ m = ((2 ^ m : Nat) : Int) := by simp
  have h1 : (2 ^ m - 1 : Int) = ((2 ^ m - 1 : Nat) : Int) := by
    have : 1 ≤ 2 ^ m := Nat.one_le_two_pow
    omega
  have hlt : 2 ^ m ≤ 2 ^ 31 := Nat.pow_le_pow_right (by decide) hm
  rw [BitVec.toNat_and, h1, BitVec.ofInt_natCast, BitVec.toNat_ofNat, Nat.mod_eq_of_lt (a := 2 ^ m - 1) (by omega), Nat.and_two_pow_sub_one_eq_mod, BitVec.toNat_ofInt, BitVec.toNat_ofInt]
  have hd : (2 ^ m) ∣ (2 ^ 32) := Nat.pow_dvd_pow 2 (by omega)
  have e1 : x % 2 ^ m % ((2 ^ 32 : Nat) : Int) = x % 2 ^ m := by
    have a := Int.emod_nonneg x (show (2 : Int) ^ m ≠ 0 by rw [hp]; have := Nat.one_le_two_pow (n := m); omega)
    have b := Int.emod_lt_of_pos x (show (0 : Int) < 2 ^ m by rw [hp]; have := Nat.one_le_two_pow (n := m); omega)
    rw [hp] at b
    exact Int.emod_eq_of_lt a (by rw [hp]; omega)
  rw [e1]
  have e2 : x % ((2 ^ 32 : Nat) : Int) % ((2 ^ m : Nat) : Int) = x % ((2 ^ m : Nat) : Int) := Int.emod_emod_of_dvd x (Int.natCast_dvd_natCast.mpr hd)
  have nn := Int.emod_nonneg x (show ((2 ^ 32 : Nat) : Int) ≠ 0 by decide)
  rw [hp, ← e2]
  have : ((x % ((2 ^ 32 : Nat) : Int)).toNat : Int) = x % ((2 ^ 32 : Nat) : Int) := Int.toNat_of_nonneg nn
  rw [← this, ← Int.natCast_emod, Int.toNat_natCast, Int.toNat_natCast]
theorem rl_rg {x : Int} (h : rg x) : rl x := by simp only [rg, rl] at *; omega
