theorem pc_m_take {σ σ' : St} {x b : Int32} (e : σ' = m_take σ x b) (h : pcOK σ) : pcOK σ' := by
  have g := (mfr56 (m_keep σ) b).2
  have e1 : m_keep σ 6 7 = σ 5 7 := by
    rw [keep6]
    rfl
  have h2 : vp_in ((mfr (m_keep σ) b) 6 7) 256 := by
    rw [g, e1]
    exact h
  have key : pcOK (mrest (mfr (m_keep σ) b) x) := pc_mrest h2
  have e2 : σ' = mrest (mfr (m_keep σ) b) x := e.trans (m_take_split σ x b)
  clear e
  obtain ⟨τ, t⟩ : ∃ z, z = mrest (mfr (m_keep σ) b) x := ⟨_, rfl⟩
  rw [← t] at key e2
  rw [e2]
  exact key

