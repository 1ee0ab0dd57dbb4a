theorem plSim_ok : plSim (fun _ _ _ => False) := by
  sorry
