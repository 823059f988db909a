theorem pure_law (L : Nat) (xs : Nat → Int32) (hL : L ≤ 2048) : f_law L xs FU 0 0 0 0 0 0 (fun _ => 0) 160 (-1) (fun _ => 0) 160 (-1) (fun _ => 0) 160 (-1) (fun _ => 0) 160 (-1) (fun _ => 0) 0 0 0 0 (fun _ => 0) (fun _ => 0) (fun _ => 0) (fun _ => 0) (fun _ => 0) (fun _ => 0) = some 1 := by
  sorry
