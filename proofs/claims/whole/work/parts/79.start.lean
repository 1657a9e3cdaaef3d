/-! THE START -/
theorem q_K_0 : q_K (n_c 6) := by
  refine ⟨0, 0, 0, fun _ => 0, fun _ => 0, fun _ => 0, fun _ => 0, fun _ => 0, 0, fun _ => 0, fun _ => 0, n_c 6 532, ⟨by omega, by omega, by omega, rfl, rfl, rfl, rfl, rfl, rfl, fun _ h => absurd h (by omega), fun _ h => absurd h (by omega), fun _ h => absurd h (by omega)⟩, ?_, fun j hj => ?_, ⟨by omega, rfl, rfl, fun _ h => absurd h (by omega)⟩, ⟨0, 0, by omega, by omega, rfl, rfl, rfl, fun _ h => absurd h (by omega)⟩, ⟨⟨fun _ h => absurd h (by omega), fun _ h => absurd h (by omega), rfl, rfl, rfl⟩, fun _ _ => rfl, ?_⟩, ⟨0, by omega, rfl, rfl, fun _ h => absurd h (by omega)⟩, ⟨0, by omega, rfl, rfl, fun _ h => absurd h (by omega)⟩⟩
  · unfold q_K1
    exact ⟨by decide, by decide, rfl, rfl, rfl, rfl, rfl⟩
  · have e1 : n_c 6 65 j = 0 := rfl
    have e2 : n_c 6 3 j = 0 := rfl
    rw [e1, e2]
    decide
  · have e1 : n_c 6 532 55 = 0 := rfl
    have e2 : n_c 6 532 54 = 0 := rfl
    unfold q_LB
    rw [e1, e2]
    exact ⟨by decide, by decide, by decide, by decide, fun _ h => absurd h (by omega), fun _ h => absurd h (by omega)⟩
