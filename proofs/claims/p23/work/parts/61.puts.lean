/-! the class: put, to its end -/
section KV
variable {M : qHp} {K : Nat → Sg} {d v x : Nat → Int32} {P : Nat}
theorem kC_x {x' : Nat → Int32} {q : Nat} (h1 : q ≠ 514) : kC K d v x' q = kC K d v x q := by
  unfold kC
  simp only [h1, if_false]
theorem kx_s {k : Nat} {w : Int32} (hk : k < 80) : hS (kW M K d v x) 10 514 (nI k) (.int w) = some (kW M K d v (up x k w)) := by
  have hc : (nI k).toNatClampNeg = k := nI_clamp (by omega)
  rw [hS_of k_514 (nI_pos (by omega)) (by rw [hc, ia_len]; exact hk), hc, ia_set]
  exact congrArg some (kW_up (by omega) rfl fun q _ hn => kC_x hn)
def ptX (x : Nat → Int32) (P n i : Nat) (f : Nat → Int32) : Nat → Int32 := fun k => if P ≤ k ∧ k < P + i then f (n - 1 - (k - P)) else x k
theorem ush_n {X : Int64} {k : Nat} (hk : k < 8) : ((((X.toUInt64 >>> ((8 * nI k).toInt64.toUInt64 &&& Int64.toUInt64 63)).toInt64 &&& 255).toInt32).toUInt32 % 65536).toInt32 = byB X k := by
  have e : ∀ k, k < 8 → ((8 * nI k).toInt64.toUInt64 &&& Int64.toUInt64 63).toNat % 64 = 8 * k := by decide
  rw [and_n, xN_shr (e k hk), byB_n hk, l2i _ (Nat.mod_lt _ (by omega))]
  exact ch_ok _ byN_lt
theorem chB {X : Int64} {k : Nat} (hk : k < 8) : ((byB X k).toUInt32 % 65536).toInt32 = byB X k := by
  rw [byB_n hk]; exact ch_ok _ byN_lt
end KV
