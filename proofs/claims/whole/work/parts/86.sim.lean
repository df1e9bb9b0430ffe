/-! ===== all the calls together ===== -/
theorem pt_all : pt_sim rl_R :=
  ⟨fun _ _ _ h => sm_type h, fun _ _ _ _ h => sm_set h, fun _ _ _ _ _ _ h _ => sm_plant h, fun _ _ _ h => sm_begin h, fun _ _ _ h => sm_turn h, fun _ _ _ h => sm_run h, fun _ _ _ h => sm_interrupt h, fun _ _ _ _ h => sm_thread h, fun _ _ _ h => sm_out h, fun _ _ _ h => sm_told h, fun _ _ _ h => sm_waiting h, fun _ _ _ h => sm_plain h, fun _ _ h => sm_close h, fun _ _ h => sm_clear h⟩
theorem pt_first : rl_R pt_s0 pt_t0 := by
  have q1 : pt_t0 0 1 = 0 := rfl
  have q2 : pt_t0 0 2 = 8 := rfl
  have q3 : pt_t0 0 3 = 16 := rfl
  have q4 : pt_t0 0 4 = 64 := rfl
  have q5 : pt_t0 0 5 = 2 := rfl
  have q9 : pt_t0 0 9 = 0 := rfl
  have q14 : pt_t0 0 14 = 0 := rfl
  have p2 : ∀ b, pt_t0 2 b = 0 := fun _ => rfl
  refine ⟨⟨rfl, rfl, rfl, rfl, rfl, rfl, rfl, rfl, rfl, rfl, rfl⟩, ?_, ⟨rfl, rfl, rfl, rfl, rfl, rfl, rfl, rfl, rfl, rfl, rfl, rfl, rfl, rfl, rfl, rfl, rfl, fun t ht => ?_⟩, fun q => ?_, fun q => ?_⟩
  · unfold rl_B
    rw [q1, q2, q3, q4, q5, q9, q14, i_0, i_8, i_16, i_64, i_2]
    exact ⟨by omega, by omega, by omega, by omega, by omega, by omega, by omega, by omega, by omega, by omega, fun b => by rw [p2, i_0]; omega, Or.inl rfl, Or.inl rfl, fun q => absurd q (by decide)⟩
  · have hc : t = 0 ∨ t = 1 ∨ t = 2 ∨ t = 3 ∨ t = 4 ∨ t = 5 := by omega
    rcases hc with c | c | c | c | c | c <;> subst c <;> exact ⟨rfl, rfl, rfl, rfl, rfl, rfl⟩
  · rw [q9] at q; exact absurd q (by decide)
  · rw [q14] at q; exact absurd q (by decide)
