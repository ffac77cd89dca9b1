-- the reference's PC stays in 0 .. 255 over a taking
theorem pc_u0 {σ σ' : St} {k : Nat} {v : Int32} (e : σ' = up2 σ 0 k v) (h : pcOK σ) : pcOK σ' := by
  subst e
  exact h
theorem pc_m_keep {σ σ' : St} (e : σ' = m_keep σ) (h : pcOK σ) : pcOK σ' := by
  subst e
  exact h
theorem mmu1 (τ : St) (a : Int32) : (m_mayUse τ a).1 = τ := by
  unfold m_mayUse m_isOpenWorld m_isOpenWorld_16 m_mayUse_16 m_mayUse_21
  simp only [bd2, mk]
  repeat' (first | rfl | split)
theorem mwr56 (τ : St) (a v : Int32) : (m_write τ a v) 5 = τ 5 ∧ (m_write τ a v) 6 = τ 6 := by
  unfold m_write m_write_38 m_speak m_speak_12
  simp only [bd2, bd, mmu1]
  repeat' (first | exact ⟨rfl, rfl⟩ | split)
