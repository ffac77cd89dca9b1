theorem mst1 (τ : St) : m_stack τ = (τ, 8) ∨ m_stack τ = (τ, 9) := by
  unfold m_stack m_isOpenWorld m_isOpenWorld_16 m_stack_14
  simp only [bd2]
  repeat' (first | exact Or.inl rfl | exact Or.inr rfl | split)
theorem mpu56 (τ : St) (v : Int32) : (m_push τ v) 5 (ix 7) = τ 5 (ix 7) ∧ (m_push τ v) 6 = τ 6 := by
  unfold m_push
  rcases mst1 τ with h | h
  · simp only [bd2, bd, h]
    rw [(mwr56 _ _ _).1, (mwr56 _ _ _).2]
    exact ⟨rfl, rfl⟩
  · simp only [bd2, bd, h]
    rw [(mwr56 _ _ _).1, (mwr56 _ _ _).2]
    exact ⟨rfl, rfl⟩
