theorem law_pure (sc : Nat → Int32) (L : Nat) (hL : L ≤ 3072) : ∃ n, lp (L_body sc L) n (zC, zM, 0) = some 1 := sorry
