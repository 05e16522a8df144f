/-! the reference's object: what is asked of it -/
section QA
variable {M : qHp} {c : Nat → Int32} {R : Nat → Sg} {A : Nat → Nat → Int32}
theorem wn_now : hLI (wm M c R A) 628 (0) = some (.int (R 0 (0) (0))) := (congrArg (fun q => hLI q 628 (0)) wm_now').trans (ld_now )
theorem wv_now {v : Int32} : hS (wm M c R A) 8 628 (0) (.int v) = some (wm M c (us R 0 (u2 (R 0) (0) (0) v)) A) := (congrArg (fun q => hS q 8 628 (0) (.int v)) wm_now').trans ((sv_now ).trans (congrArg some wm_now))
theorem wt_now : hLI (wm M c R A) 629 (0) = some (.int (R 1 (0) (0))) := (congrArg (fun q => hLI q 629 (0)) wm_then').trans (ld_now )
theorem wu_now {v : Int32} : hS (wm M c R A) 8 629 (0) (.int v) = some (wm M c (us R 1 (u2 (R 1) (0) (0) v)) A) := (congrArg (fun q => hS q 8 629 (0) (.int v)) wm_then').trans ((sv_now ).trans (congrArg some wm_then))
theorem wn_many : hLI (wm M c R A) 628 (1) = some (.int (R 0 (0) (1))) := (congrArg (fun q => hLI q 628 (1)) wm_now').trans (ld_many )
theorem wv_many {v : Int32} : hS (wm M c R A) 8 628 (1) (.int v) = some (wm M c (us R 0 (u2 (R 0) (0) (1) v)) A) := (congrArg (fun q => hS q 8 628 (1) (.int v)) wm_now').trans ((sv_many ).trans (congrArg some wm_now))
theorem wt_many : hLI (wm M c R A) 629 (1) = some (.int (R 1 (0) (1))) := (congrArg (fun q => hLI q 629 (1)) wm_then').trans (ld_many )
theorem wu_many {v : Int32} : hS (wm M c R A) 8 629 (1) (.int v) = some (wm M c (us R 1 (u2 (R 1) (0) (1) v)) A) := (congrArg (fun q => hS q 8 629 (1) (.int v)) wm_then').trans ((sv_many ).trans (congrArg some wm_then))
theorem wn_set2 : hLI (wm M c R A) 628 (4) = some (.int (R 0 (1) (2))) := (congrArg (fun q => hLI q 628 (4)) wm_now').trans (ld_set2 )
theorem wv_set2 {v : Int32} : hS (wm M c R A) 8 628 (4) (.int v) = some (wm M c (us R 0 (u2 (R 0) (1) (2) v)) A) := (congrArg (fun q => hS q 8 628 (4) (.int v)) wm_now').trans ((sv_set2 ).trans (congrArg some wm_now))
theorem wt_set2 : hLI (wm M c R A) 629 (4) = some (.int (R 1 (1) (2))) := (congrArg (fun q => hLI q 629 (4)) wm_then').trans (ld_set2 )
theorem wu_set2 {v : Int32} : hS (wm M c R A) 8 629 (4) (.int v) = some (wm M c (us R 1 (u2 (R 1) (1) (2) v)) A) := (congrArg (fun q => hS q 8 629 (4) (.int v)) wm_then').trans ((sv_set2 ).trans (congrArg some wm_then))
theorem wn_rej : hLI (wm M c R A) 628 (34) = some (.int (R 0 (0) (2))) := (congrArg (fun q => hLI q 628 (34)) wm_now').trans (ld_rej )
theorem wv_rej {v : Int32} : hS (wm M c R A) 8 628 (34) (.int v) = some (wm M c (us R 0 (u2 (R 0) (0) (2) v)) A) := (congrArg (fun q => hS q 8 628 (34) (.int v)) wm_now').trans ((sv_rej ).trans (congrArg some wm_now))
theorem wt_rej : hLI (wm M c R A) 629 (34) = some (.int (R 1 (0) (2))) := (congrArg (fun q => hLI q 629 (34)) wm_then').trans (ld_rej )
theorem wu_rej {v : Int32} : hS (wm M c R A) 8 629 (34) (.int v) = some (wm M c (us R 1 (u2 (R 1) (0) (2) v)) A) := (congrArg (fun q => hS q 8 629 (34) (.int v)) wm_then').trans ((sv_rej ).trans (congrArg some wm_then))
theorem wn_cost : hLI (wm M c R A) 628 (35) = some (.int (R 0 (0) (3))) := (congrArg (fun q => hLI q 628 (35)) wm_now').trans (ld_cost )
theorem wv_cost {v : Int32} : hS (wm M c R A) 8 628 (35) (.int v) = some (wm M c (us R 0 (u2 (R 0) (0) (3) v)) A) := (congrArg (fun q => hS q 8 628 (35) (.int v)) wm_now').trans ((sv_cost ).trans (congrArg some wm_now))
theorem wt_cost : hLI (wm M c R A) 629 (35) = some (.int (R 1 (0) (3))) := (congrArg (fun q => hLI q 629 (35)) wm_then').trans (ld_cost )
theorem wu_cost {v : Int32} : hS (wm M c R A) 8 629 (35) (.int v) = some (wm M c (us R 1 (u2 (R 1) (0) (3) v)) A) := (congrArg (fun q => hS q 8 629 (35) (.int v)) wm_then').trans ((sv_cost ).trans (congrArg some wm_then))
theorem wn_cut {r : Nat} (hr : r < 8) : hLI (wm M c R A) 628 (11 + nI r) = some (.int (R 0 (2) (r))) := (congrArg (fun q => hLI q 628 (11 + nI r)) wm_now').trans (ld_cut hr)
theorem wv_cut {r : Nat} {v : Int32} (hr : r < 8) : hS (wm M c R A) 8 628 (11 + nI r) (.int v) = some (wm M c (us R 0 (u2 (R 0) (2) (r) v)) A) := (congrArg (fun q => hS q 8 628 (11 + nI r) (.int v)) wm_now').trans ((sv_cut hr).trans (congrArg some wm_now))
theorem wt_cut {r : Nat} (hr : r < 8) : hLI (wm M c R A) 629 (11 + nI r) = some (.int (R 1 (2) (r))) := (congrArg (fun q => hLI q 629 (11 + nI r)) wm_then').trans (ld_cut hr)
theorem wu_cut {r : Nat} {v : Int32} (hr : r < 8) : hS (wm M c R A) 8 629 (11 + nI r) (.int v) = some (wm M c (us R 1 (u2 (R 1) (2) (r) v)) A) := (congrArg (fun q => hS q 8 629 (11 + nI r) (.int v)) wm_then').trans ((sv_cut hr).trans (congrArg some wm_then))
theorem wn_setx {i : Nat} (hi : i < 9) : hLI (wm M c R A) 628 (2 + nI i) = some (.int (R 0 (1) (i))) := (congrArg (fun q => hLI q 628 (2 + nI i)) wm_now').trans (ld_setx hi)
theorem wv_setx {i : Nat} {v : Int32} (hi : i < 9) : hS (wm M c R A) 8 628 (2 + nI i) (.int v) = some (wm M c (us R 0 (u2 (R 0) (1) (i) v)) A) := (congrArg (fun q => hS q 8 628 (2 + nI i) (.int v)) wm_now').trans ((sv_setx hi).trans (congrArg some wm_now))
theorem wt_setx {i : Nat} (hi : i < 9) : hLI (wm M c R A) 629 (2 + nI i) = some (.int (R 1 (1) (i))) := (congrArg (fun q => hLI q 629 (2 + nI i)) wm_then').trans (ld_setx hi)
theorem wu_setx {i : Nat} {v : Int32} (hi : i < 9) : hS (wm M c R A) 8 629 (2 + nI i) (.int v) = some (wm M c (us R 1 (u2 (R 1) (1) (i) v)) A) := (congrArg (fun q => hS q 8 629 (2 + nI i) (.int v)) wm_then').trans ((sv_setx hi).trans (congrArg some wm_then))
theorem wn_m0 {m : Nat} (hm : m < 3) : hLI (wm M c R A) 628 (19 + 5 * nI m) = some (.int (R 0 (3 + m) (0))) := (congrArg (fun q => hLI q 628 (19 + 5 * nI m)) wm_now').trans (ld_m0 hm)
theorem wv_m0 {m : Nat} {v : Int32} (hm : m < 3) : hS (wm M c R A) 8 628 (19 + 5 * nI m) (.int v) = some (wm M c (us R 0 (u2 (R 0) (3 + m) (0) v)) A) := (congrArg (fun q => hS q 8 628 (19 + 5 * nI m) (.int v)) wm_now').trans ((sv_m0 hm).trans (congrArg some wm_now))
theorem wt_m0 {m : Nat} (hm : m < 3) : hLI (wm M c R A) 629 (19 + 5 * nI m) = some (.int (R 1 (3 + m) (0))) := (congrArg (fun q => hLI q 629 (19 + 5 * nI m)) wm_then').trans (ld_m0 hm)
theorem wu_m0 {m : Nat} {v : Int32} (hm : m < 3) : hS (wm M c R A) 8 629 (19 + 5 * nI m) (.int v) = some (wm M c (us R 1 (u2 (R 1) (3 + m) (0) v)) A) := (congrArg (fun q => hS q 8 629 (19 + 5 * nI m) (.int v)) wm_then').trans ((sv_m0 hm).trans (congrArg some wm_then))
theorem wn_m1 {m : Nat} (hm : m < 3) : hLI (wm M c R A) 628 (19 + 5 * nI m + 1) = some (.int (R 0 (3 + m) (1))) := (congrArg (fun q => hLI q 628 (19 + 5 * nI m + 1)) wm_now').trans (ld_m1 hm)
theorem wv_m1 {m : Nat} {v : Int32} (hm : m < 3) : hS (wm M c R A) 8 628 (19 + 5 * nI m + 1) (.int v) = some (wm M c (us R 0 (u2 (R 0) (3 + m) (1) v)) A) := (congrArg (fun q => hS q 8 628 (19 + 5 * nI m + 1) (.int v)) wm_now').trans ((sv_m1 hm).trans (congrArg some wm_now))
theorem wt_m1 {m : Nat} (hm : m < 3) : hLI (wm M c R A) 629 (19 + 5 * nI m + 1) = some (.int (R 1 (3 + m) (1))) := (congrArg (fun q => hLI q 629 (19 + 5 * nI m + 1)) wm_then').trans (ld_m1 hm)
theorem wu_m1 {m : Nat} {v : Int32} (hm : m < 3) : hS (wm M c R A) 8 629 (19 + 5 * nI m + 1) (.int v) = some (wm M c (us R 1 (u2 (R 1) (3 + m) (1) v)) A) := (congrArg (fun q => hS q 8 629 (19 + 5 * nI m + 1) (.int v)) wm_then').trans ((sv_m1 hm).trans (congrArg some wm_then))
theorem wn_m2 {m : Nat} (hm : m < 3) : hLI (wm M c R A) 628 (19 + 5 * nI m + 2) = some (.int (R 0 (3 + m) (2))) := (congrArg (fun q => hLI q 628 (19 + 5 * nI m + 2)) wm_now').trans (ld_m2 hm)
theorem wv_m2 {m : Nat} {v : Int32} (hm : m < 3) : hS (wm M c R A) 8 628 (19 + 5 * nI m + 2) (.int v) = some (wm M c (us R 0 (u2 (R 0) (3 + m) (2) v)) A) := (congrArg (fun q => hS q 8 628 (19 + 5 * nI m + 2) (.int v)) wm_now').trans ((sv_m2 hm).trans (congrArg some wm_now))
theorem wt_m2 {m : Nat} (hm : m < 3) : hLI (wm M c R A) 629 (19 + 5 * nI m + 2) = some (.int (R 1 (3 + m) (2))) := (congrArg (fun q => hLI q 629 (19 + 5 * nI m + 2)) wm_then').trans (ld_m2 hm)
theorem wu_m2 {m : Nat} {v : Int32} (hm : m < 3) : hS (wm M c R A) 8 629 (19 + 5 * nI m + 2) (.int v) = some (wm M c (us R 1 (u2 (R 1) (3 + m) (2) v)) A) := (congrArg (fun q => hS q 8 629 (19 + 5 * nI m + 2) (.int v)) wm_then').trans ((sv_m2 hm).trans (congrArg some wm_then))
theorem wn_m3 {m : Nat} (hm : m < 3) : hLI (wm M c R A) 628 (19 + 5 * nI m + 3) = some (.int (R 0 (3 + m) (3))) := (congrArg (fun q => hLI q 628 (19 + 5 * nI m + 3)) wm_now').trans (ld_m3 hm)
theorem wv_m3 {m : Nat} {v : Int32} (hm : m < 3) : hS (wm M c R A) 8 628 (19 + 5 * nI m + 3) (.int v) = some (wm M c (us R 0 (u2 (R 0) (3 + m) (3) v)) A) := (congrArg (fun q => hS q 8 628 (19 + 5 * nI m + 3) (.int v)) wm_now').trans ((sv_m3 hm).trans (congrArg some wm_now))
theorem wt_m3 {m : Nat} (hm : m < 3) : hLI (wm M c R A) 629 (19 + 5 * nI m + 3) = some (.int (R 1 (3 + m) (3))) := (congrArg (fun q => hLI q 629 (19 + 5 * nI m + 3)) wm_then').trans (ld_m3 hm)
theorem wu_m3 {m : Nat} {v : Int32} (hm : m < 3) : hS (wm M c R A) 8 629 (19 + 5 * nI m + 3) (.int v) = some (wm M c (us R 1 (u2 (R 1) (3 + m) (3) v)) A) := (congrArg (fun q => hS q 8 629 (19 + 5 * nI m + 3) (.int v)) wm_then').trans ((sv_m3 hm).trans (congrArg some wm_then))
theorem wn_m4 {m : Nat} (hm : m < 3) : hLI (wm M c R A) 628 (19 + 5 * nI m + 4) = some (.int (R 0 (3 + m) (4))) := (congrArg (fun q => hLI q 628 (19 + 5 * nI m + 4)) wm_now').trans (ld_m4 hm)
theorem wv_m4 {m : Nat} {v : Int32} (hm : m < 3) : hS (wm M c R A) 8 628 (19 + 5 * nI m + 4) (.int v) = some (wm M c (us R 0 (u2 (R 0) (3 + m) (4) v)) A) := (congrArg (fun q => hS q 8 628 (19 + 5 * nI m + 4) (.int v)) wm_now').trans ((sv_m4 hm).trans (congrArg some wm_now))
theorem wt_m4 {m : Nat} (hm : m < 3) : hLI (wm M c R A) 629 (19 + 5 * nI m + 4) = some (.int (R 1 (3 + m) (4))) := (congrArg (fun q => hLI q 629 (19 + 5 * nI m + 4)) wm_then').trans (ld_m4 hm)
theorem wu_m4 {m : Nat} {v : Int32} (hm : m < 3) : hS (wm M c R A) 8 629 (19 + 5 * nI m + 4) (.int v) = some (wm M c (us R 1 (u2 (R 1) (3 + m) (4) v)) A) := (congrArg (fun q => hS q 8 629 (19 + 5 * nI m + 4) (.int v)) wm_then').trans ((sv_m4 hm).trans (congrArg some wm_then))
theorem wn_qd {m : Nat} (hm : m < 3) : hLI (wm M c R A) 628 (36 + nI m) = some (.int (R 0 (6) (m))) := (congrArg (fun q => hLI q 628 (36 + nI m)) wm_now').trans (ld_qd hm)
theorem wv_qd {m : Nat} {v : Int32} (hm : m < 3) : hS (wm M c R A) 8 628 (36 + nI m) (.int v) = some (wm M c (us R 0 (u2 (R 0) (6) (m) v)) A) := (congrArg (fun q => hS q 8 628 (36 + nI m) (.int v)) wm_now').trans ((sv_qd hm).trans (congrArg some wm_now))
theorem wt_qd {m : Nat} (hm : m < 3) : hLI (wm M c R A) 629 (36 + nI m) = some (.int (R 1 (6) (m))) := (congrArg (fun q => hLI q 629 (36 + nI m)) wm_then').trans (ld_qd hm)
theorem wu_qd {m : Nat} {v : Int32} (hm : m < 3) : hS (wm M c R A) 8 629 (36 + nI m) (.int v) = some (wm M c (us R 1 (u2 (R 1) (6) (m) v)) A) := (congrArg (fun q => hS q 8 629 (36 + nI m) (.int v)) wm_then').trans ((sv_qd hm).trans (congrArg some wm_then))
theorem wn_q {m i : Nat} (hm : m < 3) (hi : i < 40) : hLI (wm M c R A) 628 (39 + 40 * nI m + nI i) = some (.int (R 0 (7 + m) (i))) := (congrArg (fun q => hLI q 628 (39 + 40 * nI m + nI i)) wm_now').trans (ld_q hm hi)
theorem wv_q {m i : Nat} {v : Int32} (hm : m < 3) (hi : i < 40) : hS (wm M c R A) 8 628 (39 + 40 * nI m + nI i) (.int v) = some (wm M c (us R 0 (u2 (R 0) (7 + m) (i) v)) A) := (congrArg (fun q => hS q 8 628 (39 + 40 * nI m + nI i) (.int v)) wm_now').trans ((sv_q hm hi).trans (congrArg some wm_now))
theorem wt_q {m i : Nat} (hm : m < 3) (hi : i < 40) : hLI (wm M c R A) 629 (39 + 40 * nI m + nI i) = some (.int (R 1 (7 + m) (i))) := (congrArg (fun q => hLI q 629 (39 + 40 * nI m + nI i)) wm_then').trans (ld_q hm hi)
theorem wu_q {m i : Nat} {v : Int32} (hm : m < 3) (hi : i < 40) : hS (wm M c R A) 8 629 (39 + 40 * nI m + nI i) (.int v) = some (wm M c (us R 1 (u2 (R 1) (7 + m) (i) v)) A) := (congrArg (fun q => hS q 8 629 (39 + 40 * nI m + nI i) (.int v)) wm_then').trans ((sv_q hm hi).trans (congrArg some wm_then))
theorem nI_bt {x : Int32} {n : Nat} (hn : n < 100000) (h0 : 0 ≤ x) (h1 : x ≤ nI n) : ∃ j, j ≤ n ∧ x = nI j := by
  refine ⟨x.toNatClampNeg, ?_, ?_⟩
  · have h2 := Int32.le_iff_toInt_le.mp h1
    have h3 := Int32.le_iff_toInt_le.mp h0
    have h4 : (nI n).toInt = n := nI_toInt (by omega)
    rw [h4] at h2
    have h5 : (0 : Int32).toInt = 0 := rfl
    rw [h5] at h3
    unfold Int32.toNatClampNeg
    omega
  · have h2 := Int32.le_iff_toInt_le.mp h1
    have h3 := Int32.le_iff_toInt_le.mp h0
    have h4 : (nI n).toInt = n := nI_toInt (by omega)
    rw [h4] at h2
    have h5 : (0 : Int32).toInt = 0 := rfl
    rw [h5] at h3
    refine Int32.toInt_inj.mp ?_
    rw [nI_toInt (by unfold Int32.toNatClampNeg; omega)]
    unfold Int32.toNatClampNeg
    omega
theorem rcR_0 {k : Nat} : rcR R k 0 = R 0 := by
  unfold rcR
  split
  · rw [us_ne (by omega), if_neg (by omega)]
  · rw [us_ne (by omega)]
theorem i640' (k : Nat) : (640 * nI k : Int32) = nI (640 * k) := i640 k
theorem rcR_8 {k i : Nat} (hk : k ≤ 6) (hi : 8 ≤ i) : rcR R k i = R i := by
  unfold rcR
  split
  · rw [us_ne (by omega), if_neg (by omega)]
  · rw [us_ne (by omega)]
end QA
