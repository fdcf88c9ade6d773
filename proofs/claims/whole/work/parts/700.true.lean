theorem law_true (xs : Nat → Int32) {L : Nat} (hL : L ≤ 2560) : F_L_law xs L (fun r => r = 1) := sorry
