theorem pure_ok : ∃ (g : Nat) (S1 R1 : Mem), f_X0_allot g (up (up (up S0 0 4 0) 0 5 0) 0 6 (-1)) 0 1 = some S1 ∧ f_X5_initT g = some R1 ∧ ∀ (L : Nat) (xs : Nat → Int32), L ≤ 256 → f_law g L xs 100 S1 R1 (fun _ => 0) 0 = some 1 := by
  obtain ⟨S1, R1, h1, h2, h3⟩ := initE (g := 64) (by decide)
  exact ⟨64, S1, R1, h1, h2, fun L xs hL => lawE (by decide) hL 100 0 S1 R1 (fun _ => 0) (Nat.zero_le _) (by omega) h3⟩
