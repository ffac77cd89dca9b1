theorem pc164 (τ : St) (x y z : Int32) : pcOK (m_take_164 τ x y z) := by
  unfold m_take_164
  by_cases h : y = 0
  · rw [if_pos h]
    exact pc181 _ _ _
  · rw [if_neg h]
    by_cases h2 : z = 0
    · rw [if_pos h2, bd_e (y := up2 τ 5 (ix 10) 0) rfl]
      exact pc181 _ _ _
    · rw [if_neg h2]
      exact pc181 _ _ _
theorem pc134_6 (τ : St) (x y z : Int32) : pcOK (m_take_134_6 τ x y z) := by
  unfold m_take_134_6
  exact pc164 _ _ _ _
theorem pc134_5 (τ : St) (x y z : Int32) : pcOK (m_take_134_5 τ x y z) := by
  unfold m_take_134_5
  by_cases h : y = 0
  · rw [if_pos h]
    exact pc164 _ _ _ _
  · rw [if_neg h]
    by_cases h2 : z = 0
    · rw [if_pos h2, bd_e (y := up2 τ 5 (ix 5) 0) rfl]
      exact pc134_6 _ _ _ _
    · rw [if_neg h2]
      exact pc164 _ _ _ _
theorem pc134_4 (τ : St) (x y z : Int32) : pcOK (m_take_134_4 τ x y z) := by
  unfold m_take_134_4
  by_cases h : y = 0
  · rw [if_pos h]
    exact pc164 _ _ _ _
  · rw [if_neg h]
    by_cases h2 : z = 0
    · rw [if_pos h2, bd_e (y := up2 τ 5 (ix 4) 0) rfl]
      exact pc134_5 _ _ _ _
    · rw [if_neg h2]
      exact pc164 _ _ _ _
theorem pc134_3 (τ : St) (x y z : Int32) : pcOK (m_take_134_3 τ x y z) := by
  unfold m_take_134_3
  by_cases h : y = 0
  · rw [if_pos h]
    exact pc164 _ _ _ _
  · rw [if_neg h]
    by_cases h2 : z = 0
    · rw [if_pos h2, bd_e (y := up2 τ 5 (ix 3) 0) rfl]
      exact pc134_4 _ _ _ _
    · rw [if_neg h2]
      exact pc164 _ _ _ _
theorem pc134_2 (τ : St) (x y z : Int32) : pcOK (m_take_134_2 τ x y z) := by
  unfold m_take_134_2
  by_cases h : y = 0
  · rw [if_pos h]
    exact pc164 _ _ _ _
  · rw [if_neg h]
    by_cases h2 : z = 0
    · rw [if_pos h2, bd_e (y := up2 τ 5 (ix 2) 0) rfl]
      exact pc134_3 _ _ _ _
    · rw [if_neg h2]
      exact pc164 _ _ _ _
theorem pc134_1 (τ : St) (x y z : Int32) : pcOK (m_take_134_1 τ x y z) := by
  unfold m_take_134_1
  by_cases h : y = 0
  · rw [if_pos h]
    exact pc164 _ _ _ _
  · rw [if_neg h]
    by_cases h2 : z = 0
    · rw [if_pos h2, bd_e (y := up2 τ 5 (ix 1) 0) rfl]
      exact pc134_2 _ _ _ _
    · rw [if_neg h2]
      exact pc164 _ _ _ _
theorem pc134_0 (τ : St) (x y z : Int32) : pcOK (m_take_134_0 τ x y z) := by
  unfold m_take_134_0
  by_cases h : y = 0
  · rw [if_pos h]
    exact pc164 _ _ _ _
  · rw [if_neg h]
    by_cases h2 : z = 0
    · rw [if_pos h2, bd_e (y := up2 τ 5 (ix 0) 0) rfl]
      exact pc134_1 _ _ _ _
    · rw [if_neg h2]
      exact pc164 _ _ _ _
theorem pc129 (τ : St) (x y z a b : Int32) : pcOK (m_take_129_6 τ x y z a b) := by
  unfold m_take_129_6
  rw [bd_e (y := up2 τ 5 (ix 6) (b + a)) rfl]
  exact pc134_0 _ _ _ _
theorem pc96 (τ : St) (x y : Int32) : pcOK (m_take_96 τ x y) := by
  unfold m_take_96
  obtain ⟨τ1, v1, t1⟩ : ∃ (p : St) (q : Int32), (p, q) = m_isClosedOne τ x := ⟨_, _, rfl⟩
  rw [bd2_e t1]
  by_cases h : y = 0
  · rw [if_pos h]
    exact pc129 _ _ _ _ _ _
  · rw [if_neg h]
    exact pc129 _ _ _ _ _ _
theorem pc_mrest {τ : St} {x : Int32} (h : vp_in (τ 6 7) 256) : pcOK (mrest τ x) := by
  unfold mrest
  by_cases hf : τ 0 14 = 0
  · rw [if_pos hf]
    obtain ⟨τ1, v1, t1⟩ : ∃ (p : St) (q : Int32), (p, q) = m_isOpenWorld τ := ⟨_, _, rfl⟩
    rw [bd2_e t1]
    by_cases h2 : v1 = 0
    · rw [if_pos h2]
      exact pc96 _ _ _
    · rw [if_neg h2]
      exact pc96 _ _ _
  · rw [if_neg hf]
    have e2 : m_takeBack τ 5 (ix 7) = τ 6 7 := by
      rw [back5]
      rfl
    obtain ⟨τ2, t2⟩ : ∃ z, z = m_takeBack τ := ⟨_, rfl⟩
    rw [← t2] at e2
    rw [bd_e t2]
    have e3 : (up2 τ2 0 11 2) 5 (ix 7) = τ 6 7 := e2
    have e4 : (bd (up2 τ2 0 11 2) fun σ62 => σ62) = up2 τ2 0 11 2 := rfl
    rw [e4]
    show vp_in ((up2 τ2 0 11 2) 5 (ix 7)) 256
    rw [e3]
    exact h
