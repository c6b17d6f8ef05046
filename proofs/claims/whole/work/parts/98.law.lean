/-- the law's run on the machine of handles: what is still owed -/
theorem law_ok (L : Nat) (xs : Nat → Int32) (hL : L ≤ 384) : X 30 235 (am_bk 235 0) [.ref 10, .null, .null, .null] [] (st_h L xs) (fun r _ => r = some (.int 1)) := by
  sorry
