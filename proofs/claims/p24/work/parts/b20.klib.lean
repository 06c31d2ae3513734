theorem I9_sup0 : I9_sup (fun _ => 0) := ⟨⟨by decide, by decide⟩, ⟨by decide, by decide⟩, ⟨by decide, by decide⟩, ⟨by decide, by decide⟩⟩
theorem I9_min0 {b : Nat} : I9_min b (fun _ => 0) := ⟨by show (0 : Int) ≤ Int32.toInt 0; decide, by show Int32.toInt 0 ≤ (b : Int); rw [show Int32.toInt 0 = 0 by decide]; omega⟩
theorem I9_row0 {n b : Nat} : I9_row n b (fun _ => 0) := fun q _ => ⟨by show (0 : Int) ≤ Int32.toInt 0; decide, by show Int32.toInt 0 ≤ (b : Int); rw [show Int32.toInt 0 = 0 by decide]; omega⟩
theorem I9_all0 {b : Nat} : I9_all b (fun _ => 0) := fun q => ⟨by show (0 : Int) ≤ Int32.toInt 0; decide, by show Int32.toInt 0 ≤ (b : Int); rw [show Int32.toInt 0 = 0 by decide]; omega⟩
theorem I9_c00 : I9_c0 (fun _ => 0) (fun _ => 0) (fun _ => 0) := ⟨0, 0, Nat.le_refl _, by decide, by show (0 : Int32) = nI 0; decide, by show (0 : Int32) = nI 0; decide, [], rfl⟩
