theorem law_pure : ∃ S1 S2 : ps_S, f_X10_init (ps_z (fun _ _ => 0) 0) = some S1 ∧ f_X11_init (ps_z S1 80) = some S2 ∧ ps_n (ps_z S2 102) = 103 ∧ ∀ (xs : Nat → Int32) (L : Nat), L ≤ 3584 → ∃ S9, f_runs xs (L / 7) 0 (ps_z S2 102) = some S9 := by
  sorry
