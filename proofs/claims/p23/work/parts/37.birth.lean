/-! the reference's object when it is made -/
theorem al_put {N : qHp} {n S t f : Nat} {l vs : List Value} {ty : FieldType} (h1 : N.1 = (n, S)) (h2 : N.2 627 = some (7, vs)) (h3 : n ≠ 627) (h4 : f < vs.length) (h5 : qFit ty (.ref n) = true) : ∃ N', hP (hN N (t, l)) 627 7 f ty (.ref N.1.1) = some N' ∧ N'.1 = (n + 1, S + l.length) ∧ N'.2 627 = some (7, vs.set f (.ref n)) ∧ N'.2 n = some (t, l) ∧ ∀ a, a ≠ 627 → a ≠ n → N'.2 a = N.2 a := by
  have h1' : N.1.1 = n := by rw [h1]
  refine ⟨hU (hN N (t, l)) 627 (7, vs.set f (.ref n)), ?_, ?_, ?_, ?_, ?_⟩
  · rw [h1']
    refine hP_of ?_ h4 h5
    simp only [hN]
    rw [if_neg (by omega)]; exact h2
  · simp only [hU, hN, h1]
  · simp only [hU]; rw [if_pos trivial]
  · simp only [hU, hN]
    rw [if_neg h3, if_pos h1'.symm]
  · intro a ha hb
    simp only [hU, hN]
    rw [if_neg ha, if_neg (by omega)]
def nlS : Sg := fun _ _ => 0
def iniF : Nat → Int32
  | 0 => 3
  | 1 => 20
  | 2 => 2
  | 3 => 5
  | 4 => 480
  | 6 => 50
  | 7 => 30
  | 8 => 10
  | _ => 0
def ini1 (i m : Nat) : Sg := fun g k => if g = 1 then iniF k else if g = 2 ∧ k < i then 720 else if (3 ≤ g ∧ g < 3 + m) ∧ (k = 0 ∨ k = 2) then -6 else 0
/-- the day of a new object -/
def iniS : Sg := ini1 8 3
section QK
variable {M : qHp} {c : Nat → Int32} {R : Nat → Sg} {A : Nat → Nat → Int32}
theorem wv_sx {x v : Int32} {i : Nat} (hi : i < 9) (hx : x = nI (2 + i)) : hS (wm M c R A) 8 628 x (.int v) = some (wm M c (us R 0 (u2 (R 0) 1 i v)) A) := (congrArg (fun q => hS q 8 628 x (.int v)) wm_now').trans ((ms (k := 2 + i) (by omega) (loc_set hi) hx).trans (congrArg some wm_now))
theorem wv_mx {x v : Int32} {m i : Nat} (hm : m < 3) (hi : i < 5) (hx : x = nI (19 + 5 * m + i)) : hS (wm M c R A) 8 628 x (.int v) = some (wm M c (us R 0 (u2 (R 0) (3 + m) i v)) A) := (congrArg (fun q => hS q 8 628 x (.int v)) wm_now').trans ((ms (k := 19 + 5 * m + i) (by omega) (loc_mach hm hi) hx).trans (congrArg some wm_now))
end QK
