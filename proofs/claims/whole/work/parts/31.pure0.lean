def gS00 (z : Nat) : gS := gmk (fun _ => 16) (fun _ => 0) (fun _ _ => 0) (fun _ _ => 0) (fun _ _ => none) z
