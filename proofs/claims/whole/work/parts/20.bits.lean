theorem wb_tb (n : Nat) : (lN n).toBitVec = BitVec.ofNat 64 n := rfl
theorem wb_inj {a b : Int64} (h : a.toBitVec = b.toBitVec) : a = b := Int64.toBitVec_inj.mp h
theorem wb_c : ∀ k, k < 64 → ((nI k).toInt64 &&& 63) = lN k := by decide +kernel
theorem wb_sm : ∀ k, k < 64 → (BitVec.ofNat 64 k).smod 64 = BitVec.ofNat 64 k := by decide +kernel
theorem wb_shl (n : Nat) {k : Nat} (hk : k < 64) : lN n <<< ((nI k).toInt64 &&& 63) = lN (n * 2 ^ k) := by
  rw [wb_c k hk]
  apply wb_inj
  rw [Int64.toBitVec_shiftLeft, wb_tb, wb_tb, wb_tb, wb_sm k hk]
  apply BitVec.eq_of_toNat_eq
  rw [BitVec.shiftLeft_eq', BitVec.toNat_shiftLeft, BitVec.toNat_ofNat, BitVec.toNat_ofNat, BitVec.toNat_ofNat, Nat.mod_eq_of_lt (show k < 2 ^ 64 by omega), Nat.shiftLeft_eq, Nat.mul_mod, Nat.mod_mod, ← Nat.mul_mod]
theorem wb_and {a b : Nat} (ha : a < 2 ^ 64) (hb : b < 2 ^ 64) : lN a &&& lN b = lN (a &&& b) := by
  apply wb_inj
  rw [Int64.toBitVec_and, wb_tb, wb_tb, wb_tb]
  apply BitVec.eq_of_toNat_eq
  rw [BitVec.toNat_and, BitVec.toNat_ofNat, BitVec.toNat_ofNat, BitVec.toNat_ofNat, Nat.mod_eq_of_lt ha, Nat.mod_eq_of_lt hb, Nat.mod_eq_of_lt (Nat.and_lt_two_pow _ hb)]
theorem wb_or {a b : Nat} (ha : a < 2 ^ 64) (hb : b < 2 ^ 64) : lN a ||| lN b = lN (a ||| b) := by
  apply wb_inj
  rw [Int64.toBitVec_or, wb_tb, wb_tb, wb_tb]
  apply BitVec.eq_of_toNat_eq
  rw [BitVec.toNat_or, BitVec.toNat_ofNat, BitVec.toNat_ofNat, BitVec.toNat_ofNat, Nat.mod_eq_of_lt ha, Nat.mod_eq_of_lt hb, Nat.mod_eq_of_lt (Nat.or_lt_two_pow ha hb)]
theorem pf_lI {a : Nat} (h : a < 2 ^ 63) : (lN a).toInt = (a : Int) := lg_ofNat_toInt h
theorem pf_shr {a d : Nat} {D : Int64} (hD : (D.toBitVec.smod 64).toNat = d) (h : a < 2 ^ 62) : lN a >>> D = lN (a / 2 ^ d) := by
  have hd : a / 2 ^ d ≤ a := Nat.div_le_self _ _
  apply Int64.toInt_inj.mp
  have e : (lN a >>> D).toInt = (lN a).toInt >>> d := by
    rw [← hD]
    exact BitVec.toInt_sshiftRight ..
  rw [e, Int.shiftRight_eq_div_pow, pf_lI (by omega), pf_lI (by omega)]
  rfl
/-! sets of places as numbers -/
theorem xl_n (n : Nat) : Int64.ofInt (n : Int) = lN n := Int64.ofInt_eq_ofNat
theorem xi_n (n : Nat) : Int32.ofInt (n : Int) = nI n := Int32.ofInt_eq_ofNat
theorem xb_shr {a b : Nat} (ha : a < 2 ^ 62) (hb : b < 64) : Int64.ofInt (a : Int) >>> ((Int32.ofInt (b : Int)).toInt64 &&& 63) = Int64.ofInt ((a / 2 ^ b : Nat) : Int) := by
  rw [xl_n, xi_n, xl_n, wb_c b hb]
  refine pf_shr ?_ ha
  rw [wb_tb, wb_sm b hb, BitVec.toNat_ofNat]
  exact Nat.mod_eq_of_lt (by omega)
theorem xb_a1 {a : Nat} (ha : a < 2 ^ 62) : Int64.ofInt (a : Int) &&& Int64.ofInt 1 = Int64.ofInt ((a % 2 : Nat) : Int) := by
  rw [xl_n, xl_n, show Int64.ofInt 1 = lN 1 from rfl, wb_and (by omega) (by omega), Nat.and_one_is_mod]
theorem xb_shl {b : Nat} (hb : b < 64) : Int64.ofInt 1 <<< ((Int32.ofInt (b : Int)).toInt64 &&& 63) = Int64.ofInt ((2 ^ b : Nat) : Int) := by
  rw [xi_n, xl_n, show Int64.ofInt 1 = lN 1 from rfl, wb_shl 1 hb, Nat.one_mul]
theorem xb_or {a b : Nat} (ha : a < 2 ^ 62) (hb : b < 2 ^ 62) : Int64.ofInt (a : Int) ||| Int64.ofInt (b : Int) = Int64.ofInt ((a ||| b : Nat) : Int) := by
  rw [xl_n, xl_n, xl_n, wb_or (by omega) (by omega)]
theorem xb_and {a b : Nat} (ha : a < 2 ^ 62) (hb : b < 2 ^ 62) : Int64.ofInt (a : Int) &&& Int64.ofInt (b : Int) = Int64.ofInt ((a &&& b : Nat) : Int) := by
  rw [xl_n, xl_n, xl_n, wb_and (by omega) (by omega)]
theorem xb_ng (a : Nat) : (Int64.ofInt (-(a : Int) - 1)).toBitVec = ~~~ (BitVec.ofNat 64 a) := by
  rw [Int64.toBitVec_ofInt, show -(a : Int) - 1 = Int.negSucc a by omega, BitVec.ofInt_negSucc_eq_not_ofNat]
theorem xb_not (a : Nat) : Int64.ofInt (a : Int) ^^^ Int64.ofInt (-1) = Int64.ofInt (-(a : Int) - 1) := by
  apply wb_inj
  rw [Int64.toBitVec_xor, xb_ng, xl_n, wb_tb, show (Int64.ofInt (-1)).toBitVec = BitVec.allOnes 64 from by decide, BitVec.xor_allOnes]
def xclr (s p : Nat) : Nat := s &&& (s ^^^ 2 ^ p)
theorem xclr_bit (s p i : Nat) : (xclr s p).testBit i = (s.testBit i && decide (i ≠ p)) := by
  unfold xclr
  rw [Nat.testBit_and, Nat.testBit_xor, Nat.testBit_two_pow]
  by_cases h : p = i
  · subst h; simp
  · simp [h, Ne.symm h]
theorem xclr_le (s p : Nat) : xclr s p ≤ s := Nat.and_le_left
theorem xb_clr {s p : Nat} (hs : s < 2 ^ 62) (hp : p < 62) : Int64.ofInt (s : Int) &&& Int64.ofInt (-((2 ^ p : Nat) : Int) - 1) = Int64.ofInt ((xclr s p : Nat) : Int) := by
  apply wb_inj
  rw [Int64.toBitVec_and, xb_ng, xl_n, xl_n, wb_tb, wb_tb]
  apply BitVec.eq_of_getLsbD_eq
  intro i hi
  rw [BitVec.getLsbD_and, BitVec.getLsbD_not, BitVec.getLsbD_ofNat, BitVec.getLsbD_ofNat, BitVec.getLsbD_ofNat, xclr_bit, Nat.testBit_two_pow]
  by_cases h : p = i
  · subst h; simp [hi]
  · simp [hi, h, Ne.symm h]
theorem xb_t {s p : Nat} : s / 2 ^ p % 2 = 0 ↔ s.testBit p = false := by
  rw [Nat.testBit_eq_decide_div_mod_eq]
  have := Nat.mod_two_eq_zero_or_one (s / 2 ^ p)
  constructor
  · intro h; simp [h]
  · intro h
    have h1 := of_decide_eq_false h
    omega
theorem xb_lt {s n : Nat} (h : ∀ i, n ≤ i → s.testBit i = false) : s < 2 ^ n := Nat.lt_pow_two_of_testBit s h
theorem p62 : (2 : Nat) ^ 62 = 4611686018427387904 := by decide
theorem p40 : (2 : Nat) ^ 40 = 1099511627776 := by decide
theorem xp2 {p k : Nat} (h : p ≤ k) : 2 ^ p ≤ 2 ^ k := Nat.pow_le_pow_right (by decide) h
