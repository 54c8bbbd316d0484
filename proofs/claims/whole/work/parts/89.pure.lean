theorem pure_law {L : Nat} (hL : L ≤ 2560) {xs : Nat → Int32} : fL_law_L23 L xs 600 0 0 0 0 0 0 0 0 0 0 0 0 (fun _ => 0) 0 (fun _ => 0) 0 (fun _ => 0) (fun _ => 0) (fun _ => 0) 0 (fun _ => 0) 0 0 0 (fun _ => 0) 0 0 0 0 2 (-1) 0 0 0 0 0 0 0 1 0 (fun _ => 0) (fun _ => 0) (fun _ => 0) (fun _ => 0) (fun _ => 0) (fun _ => 0) (fun _ => 0) (fun _ => 0) (fun _ => 0) (fun _ => 0) = some () := by
  have h := (law_all hL (xs := xs) 600 0 (by omega) (by omega)).1
  exact h _ _ _ _ _ _ _ _ _ _ _ _ _ _ _ _ _ _ _ _ _ _ _ _ _ _ _ _ _ _ _ _ _ _ _ _ _ _ _ _ _ _ _ _ _
