theorem sim_init : SIM 0 0 0 0 0 0 0 (fun _ => 0) 0 0 0 (fun _ _ => 0) (fun _ _ => 0) 0 (fun _ _ => 0) 0 (fun _ => 0) 0 (fun _ => 0) (fun _ => 0) 0 0 0 (fun _ => 0) (fun _ => 0) (fun _ => 0) (fun _ => 0) (fun _ => 0) 0 (fun _ => 0) 0 := by
  sorry
