section S11
/-! the new object and the new model are alike -/
def zT0 : zTS := (((fun _ => 0), (fun _ => 0), (fun _ => 0), 0, 0), ((fun _ => 0), (fun _ => 0), (fun _ => 0), (fun _ => 0), 0), ((fun _ => 0), (fun _ => 0), (fun _ => 0), (fun _ => 0), 0), ((fun _ => 0), (fun _ => 0), (fun _ => 0), (fun _ => 0), (fun _ => 0), (fun _ => 0), 0), ((fun _ => 0), (fun _ => 0), (fun _ => 0), (fun _ => 0), 0, 0, 0), (fun _ => 0))
theorem rel_0 : zRel zT0 zM0 := by
  have hM : mIn2 zM0 0 0 0 0 0 := mOk_at mOk_0 rfl (by omega) rfl (by omega) rfl (by omega) rfl (by omega) rfl (by omega)
  refine ⟨0, 0, 0, 0, 0, 0, mkRel9 hM rfl (fun t1 _ h => absurd h (by omega)) ⟨fun j hj => absurd hj (by omega), rfl, ⟨fun _ => 0, fun _ => 0, rfl, rfl⟩, rfl, fun j b hb => ?_⟩ ⟨rfl, by omega⟩ rfl ⟨rfl, fun _ _ => rfl, fun i b hb => ?_, fun i hi => absurd hi (by omega)⟩ ⟨rfl, by omega, rfl, by omega, rfl, by omega⟩ (fun t i ht hi => ?_)⟩
  · have hb : bt 0 b = true := hb
    rw [bt_zero] at hb
    exact absurd hb (by decide)
  · have hb : bt 0 b = true := hb
    rw [bt_zero] at hb
    exact absurd hb (by decide)
  · show bt 0 i = _
    rw [bt_zero, decide_eq_false (by omega), Bool.false_and]
end S11
