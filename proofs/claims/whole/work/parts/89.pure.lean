theorem DD_new : DD 160 (-1) (fun _ => 0) (fun _ => 0) := by
  refine ⟨fun i _ => ⟨rfl, show 0 < BB by decide⟩, fun i _ _ => rfl, ?_, ?_, ?_, ?_⟩
  · rw [lit_160]; omega
  · rw [lit_160]; omega
  · rw [lit_m1]; omega
  · rw [lit_m1]; omega
theorem pure_law (L : Nat) (xs : Nat → Int32) (hL : L ≤ 2048) : f_law L xs FU 0 0 0 0 0 0 (fun _ => 0) 160 (-1) (fun _ => 0) 160 (-1) (fun _ => 0) 160 (-1) (fun _ => 0) 160 (-1) (fun _ => 0) 0 0 0 0 (fun _ => 0) (fun _ => 0) (fun _ => 0) (fun _ => 0) (fun _ => 0) (fun _ => 0) = some 1 :=
  law_ind L xs hL FU 0 0 0 0 0 0 (fun _ => 0) 160 (-1) (fun _ => 0) 160 (-1) (fun _ => 0) 160 (-1) (fun _ => 0) 160 (-1) (fun _ => 0) 0 0 0 (fun _ => 0) (fun _ => 0) (fun _ => 0) (fun _ => 0) (fun _ => 0) (fun _ => 0) (fun _ => 0) (fun _ => 0) (fun _ => 0) DD_new DD_new DD_new DD_new (by decide) (Nat.zero_le _) (by unfold FU; omega)
