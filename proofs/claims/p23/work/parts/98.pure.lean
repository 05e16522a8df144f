theorem q_pure (xs : List Int32) (h : xs.length ≤ 260) : ∃ M' : qHp, qEx 150 (0, [some (.ref 0), none, none, none, none, none, none, none, none, none], [], qM0 xs) = some (some (.int 1), M') ∧ M'.1.1 ≤ 600000 ∧ M'.1.2 ≤ 7302250 := by
  obtain ⟨M', e, h1⟩ := lw_all (M := qM0 xs) (xs := xs) rfl ⟨rfl, rfl, rfl⟩ rfl h
  exact ⟨M', e, by rw [h1]; omega, by rw [h1]; omega⟩
