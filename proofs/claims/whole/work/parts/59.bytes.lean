/-! the bytes of a number -/
def xN (x : Int64) : Nat := x.toUInt64.toNat
def byN (x : Int64) (k : Nat) : Nat := xN x / 2 ^ (8 * k) % 256
theorem byN_lt {x : Int64} {k : Nat} : byN x k < 256 := Nat.mod_lt _ (by omega)
theorem bv_sr (v : BitVec 64) (s : Nat) (hs : s ≤ 56) : v.sshiftRight s &&& 255#64 = (v >>> s) &&& 255#64 := by
  apply BitVec.eq_of_getLsbD_eq
  intro i hi
  rw [BitVec.getLsbD_and, BitVec.getLsbD_and]
  by_cases h8 : i < 8
  · rw [BitVec.getLsbD_sshiftRight, BitVec.getLsbD_ushiftRight]
    have h1 : s + i < 64 := by omega
    have h2 : ¬ 64 ≤ i := by omega
    simp [h1, h2]
  · have h : (255#64).getLsbD i = false := by
      rw [BitVec.getLsbD_ofNat, show 255 = 2 ^ 8 - 1 from rfl, Nat.testBit_two_pow_sub_one]
      simp; omega
    rw [h, Bool.and_false, Bool.and_false]
theorem bv_n (v : BitVec 64) (s : Nat) : ((v >>> s) &&& 255#64).toNat = v.toNat / 2 ^ s % 256 := by
  rw [BitVec.toNat_and, BitVec.toNat_ushiftRight, Nat.shiftRight_eq_div_pow, BitVec.toNat_ofNat, show 255 % 2 ^ 64 = 2 ^ 8 - 1 from rfl, Nat.and_two_pow_sub_one_eq_mod]
theorem i64_of {a : Int64} {m : Nat} (h : a.toBitVec.toNat = m) : a = Int64.ofNat m := by
  refine Int64.toBitVec_inj.mp (BitVec.eq_of_toNat_eq ?_)
  rw [h, Int64.toBitVec_ofNat', BitVec.toNat_ofNat]
  have := a.toBitVec.isLt
  rw [h] at this
  exact (Nat.mod_eq_of_lt this).symm
theorem l2i : ∀ m, m < 256 → (Int64.ofNat m).toInt32 = nI m := by decide +kernel
