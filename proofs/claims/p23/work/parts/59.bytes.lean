/-! the bytes of a number -/
def xN (x : Int64) : Nat := x.toUInt64.toNat
def byN (x : Int64) (k : Nat) : Nat := xN x / 2 ^ (8 * k) % 256
theorem byN_lt {x : Int64} {k : Nat} : byN x k < 256 := Nat.mod_lt _ (by omega)
theorem bv_sr (v : BitVec 64) (s : Nat) (hs : s ≤ 56) : v.sshiftRight s &&& 255#64 = (v >>> s) &&& 255#64 := by
  apply BitVec.eq_of_getLsbD_eq
  intro i hi
  rw [BitVec.getLsbD_and, BitVec.getLsbD_and]
  by_cases h8 : i < 8
  · rw [BitVec.getLsbD_sshiftRight, BitVec.getLsbD_ushiftRight]
    have h1 : s + i < 64 := by omega
    have h2 : ¬ 64 ≤ i := by omega
    simp [h1, h2]
  · have h : (255#64).getLsbD i = false := by
      rw [BitVec.getLsbD_ofNat, show 255 = 2 ^ 8 - 1 from rfl, Nat.testBit_two_pow_sub_one]
      simp; omega
    rw [h, Bool.and_false, Bool.and_false]
theorem bv_n (v : BitVec 64) (s : Nat) : ((v >>> s) &&& 255#64).toNat = v.toNat / 2 ^ s % 256 := by
  rw [BitVec.toNat_and, BitVec.toNat_ushiftRight, Nat.shiftRight_eq_div_pow, BitVec.toNat_ofNat, show 255 % 2 ^ 64 = 2 ^ 8 - 1 from rfl, Nat.and_two_pow_sub_one_eq_mod]
theorem i64_of {a : Int64} {m : Nat} (h : a.toBitVec.toNat = m) : a = Int64.ofNat m := by
  refine Int64.toBitVec_inj.mp (BitVec.eq_of_toNat_eq ?_)
  rw [h, Int64.toBitVec_ofNat', BitVec.toNat_ofNat]
  have := a.toBitVec.isLt
  rw [h] at this
  exact (Nat.mod_eq_of_lt this).symm
theorem l2i : ∀ m, m < 256 → (Int64.ofNat m).toInt32 = nI m := by decide +kernel
theorem sar_n {x b : Int64} {s : Nat} (h : (b.toBitVec.smod 64#64).toNat = s) (hs : s ≤ 56) : (x >>> b &&& 255).toBitVec.toNat = xN x / 2 ^ s % 256 := by
  rw [Int64.toBitVec_and, Int64.toBitVec_shiftRight]
  show ((x.toBitVec.sshiftRight' (b.toBitVec.smod 64#64)) &&& 255#64).toNat = _
  unfold BitVec.sshiftRight'
  rw [h, bv_sr _ _ hs, bv_n]
  rfl
theorem byB_n {x : Int64} {k : Nat} (hk : k < 8) : byB x k = nI (byN x k) := by
  have e : ∀ k, k < 8 → ((((8 * nI k).toInt64 &&& 63 : Int64)).toBitVec.smod 64#64).toNat = 8 * k := by decide
  unfold byB
  rw [i64_of (sar_n (e k hk) (by omega))]
  exact l2i _ byN_lt
theorem xN_shr {x : Int64} {c : UInt64} {s : Nat} (h : c.toNat % 64 = s) : xN (x.toUInt64 >>> c).toInt64 = xN x / 2 ^ s := by
  unfold xN
  show (x.toUInt64 >>> c).toNat = _
  rw [UInt64.toNat_shiftRight, h, Nat.shiftRight_eq_div_pow]
theorem and_n {a : Int64} : a &&& 255 = Int64.ofNat (xN a % 256) := by
  refine i64_of ?_
  rw [Int64.toBitVec_and]
  show (a.toBitVec &&& 255#64).toNat = _
  rw [BitVec.toNat_and, BitVec.toNat_ofNat, show 255 % 2 ^ 64 = 2 ^ 8 - 1 from rfl, Nat.and_two_pow_sub_one_eq_mod]
  rfl
theorem cmp_lo : ∀ m, m < 256 → (lg_cmp (Int64.ofNat m) 33 < 0) = (m < 33) := by decide +kernel
theorem cmp_hi : ∀ m, m < 256 → (lg_cmp (Int64.ofNat m) 126 ≤ 0) = (m ≤ 126) := by decide +kernel
theorem xN_0 {a : Int64} : (a = 0) = (xN a = 0) := by
  refine propext ⟨fun h => by rw [h]; rfl, fun h => ?_⟩
  have := i64_of (a := a) (m := 0) h
  exact this
theorem cmp_0 {a : Int64} : (lg_cmp a 0 = 0) = (xN a = 0) := by
  rw [← xN_0]
  unfold lg_cmp
  refine propext ⟨fun h => ?_, fun h => by subst h; decide⟩
  split at h
  · exact absurd h (by decide)
  · rename_i h1
    by_cases h2 : a = 0
    · exact h2
    · rw [if_neg h2] at h; exact absurd h (by decide)
