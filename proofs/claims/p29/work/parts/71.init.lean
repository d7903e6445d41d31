section K2
def zM0 : zMS := (0, (fun _ => 0), 0, 0, (fun _ => 0), (fun _ => 0), (fun j => if j < 24 then -1 else 0), (fun _ => 0), 0, (fun _ => 0), 0, (fun _ => 0), (fun _ => 0), (fun _ => 0), (fun _ => 0), (fun _ => 0), (fun _ => 0), 0, (fun _ => 0), (fun _ => 0))
theorem isCh0 : isCh 0 := rfl
theorem mOk_0 : mOk zM0 := by
  refine ⟨0, 0, 0, 0, 0, ⟨⟨rfl, by decide, rfl, by decide, rfl, by decide, rfl, by decide, rfl, by decide, fun _ => isCh0, fun _ => isCh0, fun t ht => absurd ht (by omega), ⟨fun j hj => absurd hj (by omega), fun j hj => absurd hj (by omega)⟩, fun i hi => absurd hi (by omega)⟩, fun i hi => absurd hi (by omega)⟩, fun j _ hj => ?_, fun _ _ => rfl⟩
  show (if j < 24 then (-1 : Int32) else 0) = -1
  rw [if_pos hj]
end K2
