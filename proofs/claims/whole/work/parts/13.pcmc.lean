theorem mfr56 (τ : St) (b : Int32) : (mfr τ b) 5 (ix 7) = τ 5 (ix 7) ∧ (mfr τ b) 6 = τ 6 := by
  have hM : mfr τ b = mfr τ b := rfl
  obtain ⟨τ1, t1⟩ : ∃ z, z = m_push τ (b) := ⟨_, rfl⟩
  have hM := hM.trans (bd_e t1)
  have g1 := mpu56 τ (b)
  rw [← t1] at g1
  obtain ⟨τ2, t2⟩ : ∃ z, z = m_push τ1 (τ1 5 (ix 10)) := ⟨_, rfl⟩
  have hM := hM.trans (bd_e t2)
  have g2 := mpu56 τ1 (τ1 5 (ix 10))
  rw [← t2] at g2
  obtain ⟨τ3, t3⟩ : ∃ z, z = m_push τ2 (τ2 5 (ix 6)) := ⟨_, rfl⟩
  have hM := hM.trans (bd_e t3)
  have g3 := mpu56 τ2 (τ2 5 (ix 6))
  rw [← t3] at g3
  obtain ⟨τ4, t4⟩ : ∃ z, z = m_push τ3 (τ3 5 (ix 0)) := ⟨_, rfl⟩
  have hM := hM.trans (bd_e t4)
  have g4 := mpu56 τ3 (τ3 5 (ix 0))
  rw [← t4] at g4
  obtain ⟨τ5, t5⟩ : ∃ z, z = m_push τ4 (τ4 5 (ix 1)) := ⟨_, rfl⟩
  have hM := hM.trans (bd_e t5)
  have g5 := mpu56 τ4 (τ4 5 (ix 1))
  rw [← t5] at g5
  obtain ⟨τ6, t6⟩ : ∃ z, z = m_push τ5 (τ5 5 (ix 2)) := ⟨_, rfl⟩
  have hM := hM.trans (bd_e t6)
  have g6 := mpu56 τ5 (τ5 5 (ix 2))
  rw [← t6] at g6
  obtain ⟨τ7, t7⟩ : ∃ z, z = m_push τ6 (τ6 5 (ix 3)) := ⟨_, rfl⟩
  have hM := hM.trans (bd_e t7)
  have g7 := mpu56 τ6 (τ6 5 (ix 3))
  rw [← t7] at g7
  obtain ⟨τ8, t8⟩ : ∃ z, z = m_push τ7 (τ7 5 (ix 4)) := ⟨_, rfl⟩
  have hM := hM.trans (bd_e t8)
  have g8 := mpu56 τ7 (τ7 5 (ix 4))
  rw [← t8] at g8
  obtain ⟨τ9, t9⟩ : ∃ z, z = m_push τ8 (τ8 5 (ix 5)) := ⟨_, rfl⟩
  have hM := hM.trans (bd_e t9)
  have g9 := mpu56 τ8 (τ8 5 (ix 5))
  rw [← t9] at g9
  have g10 := mpu56 τ9 (1000 + τ9 0 10)
  have hM : mfr τ b = m_push τ9 (1000 + τ9 0 10) := hM
  rw [hM]
  exact ⟨g10.1.trans (g9.1.trans (g8.1.trans (g7.1.trans (g6.1.trans (g5.1.trans (g4.1.trans (g3.1.trans (g2.1.trans g1.1)))))))), g10.2.trans (g9.2.trans (g8.2.trans (g7.2.trans (g6.2.trans (g5.2.trans (g4.2.trans (g3.2.trans (g2.2.trans g1.2))))))))⟩
