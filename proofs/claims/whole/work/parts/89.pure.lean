theorem law_pure (xs : Nat → Int32) {L : Nat} (hL : L ≤ 2048) : lw_run xs L 514 X0 M0 0 = some 1 := by
  sorry
