/-! the reference's object: what remains to be asked, days to their end -/
section QD
variable {M : qHp} {c : Nat → Int32} {R : Nat → Sg} {A : Nat → Nat → Int32}
theorem nl_0 : nI 0 = 0 := rfl
theorem nl_1 : nI 1 = 1 := rfl
theorem nl_2 : nI 2 = 2 := rfl
theorem nl_3 : nI 3 = 3 := rfl
theorem nl_4 : nI 4 = 4 := rfl
theorem nl_5 : nI 5 = 5 := rfl
theorem nl_6 : nI 6 = 6 := rfl
theorem nl_7 : nI 7 = 7 := rfl
theorem nl_8 : nI 8 = 8 := rfl
theorem nl_9 : nI 9 = 9 := rfl
theorem nl_10 : nI 10 = 10 := rfl
theorem nl_11 : nI 11 = 11 := rfl
theorem nl_12 : nI 12 = 12 := rfl
theorem nl_13 : nI 13 = 13 := rfl
theorem nl_14 : nI 14 = 14 := rfl
theorem nl_15 : nI 15 = 15 := rfl
theorem nl_16 : nI 16 = 16 := rfl
theorem nl_17 : nI 17 = 17 := rfl
theorem nl_18 : nI 18 = 18 := rfl
def rtV (s : Sg) (r w n : Nat) : Int32 := if w = 0 then s 2 r else if w = 1 then smF s 7 (nI r) n else if w = 2 then smF s 8 (nI r) n else if w = 3 then smF s 6 (nI r) n else smF s 1 (nI r) n
/-- what count answers, by a place -/
def cnV (s : Sg) (pd kp : Int32) (n : Nat) (x : Int32) : Int32 := if 8 ≤ x ∧ x ≤ 16 then s 1 (nN (x - 8)) else if x = 0 then s 0 0 else if x = 1 then s 0 1 else if x = 2 then smF s 1 (-6) n else if x = 3 then s 0 2 else if x = 4 then smF s 5 (-6) n else if x = 5 then s 0 3 else if x = 6 then smF s 7 (-6) n else if x = 7 then smF s 8 (-6) n else if x = 17 then pd else if x = 18 then kp else -2
end QD
