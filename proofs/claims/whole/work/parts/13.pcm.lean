-- the reference's PC stays in 0 .. 255 over a taking
theorem pc_u0 {σ σ' : St} {k : Nat} {v : Int32} (e : σ' = up2 σ 0 k v) (h : pcOK σ) : pcOK σ' := by
  subst e
  exact h
theorem pc_m_keep {σ σ' : St} (e : σ' = m_keep σ) (h : pcOK σ) : pcOK σ' := by
  subst e
  exact h
theorem mmu1 (τ : St) (a : Int32) : (m_mayUse τ a).1 = τ := by
  unfold m_mayUse m_isOpenWorld m_isOpenWorld_16 m_mayUse_16 m_mayUse_21
  simp only [bd2, mk]
  repeat' (first | rfl | split)
theorem mwr56 (τ : St) (a v : Int32) : (m_write τ a v) 5 = τ 5 ∧ (m_write τ a v) 6 = τ 6 := by
  unfold m_write m_write_38 m_speak m_speak_12
  simp only [bd2, bd, mmu1]
  repeat' (first | exact ⟨rfl, rfl⟩ | split)
theorem mst1 (τ : St) : m_stack τ = (τ, 8) ∨ m_stack τ = (τ, 9) := by
  unfold m_stack m_isOpenWorld m_isOpenWorld_16 m_stack_14
  simp only [bd2]
  repeat' (first | exact Or.inl rfl | exact Or.inr rfl | split)
theorem mpu56 (τ : St) (v : Int32) : (m_push τ v) 5 (ix 7) = τ 5 (ix 7) ∧ (m_push τ v) 6 = τ 6 := by
  unfold m_push
  rcases mst1 τ with h | h
  · simp only [bd2, bd, h]
    rw [(mwr56 _ _ _).1, (mwr56 _ _ _).2]
    exact ⟨rfl, rfl⟩
  · simp only [bd2, bd, h]
    rw [(mwr56 _ _ _).1, (mwr56 _ _ _).2]
    exact ⟨rfl, rfl⟩
theorem mfr56 (τ : St) (b : Int32) : (mfr τ b) 5 (ix 7) = τ 5 (ix 7) ∧ (mfr τ b) 6 = τ 6 := by
  have hM : mfr τ b = mfr τ b := rfl
  obtain ⟨τ1, t1⟩ : ∃ z, z = m_push τ (b) := ⟨_, rfl⟩
  have hM := hM.trans (bd_e t1)
  have g1 := mpu56 τ (b)
  rw [← t1] at g1
  obtain ⟨τ2, t2⟩ : ∃ z, z = m_push τ1 (τ1 5 (ix 10)) := ⟨_, rfl⟩
  have hM := hM.trans (bd_e t2)
  have g2 := mpu56 τ1 (τ1 5 (ix 10))
  rw [← t2] at g2
  obtain ⟨τ3, t3⟩ : ∃ z, z = m_push τ2 (τ2 5 (ix 6)) := ⟨_, rfl⟩
  have hM := hM.trans (bd_e t3)
  have g3 := mpu56 τ2 (τ2 5 (ix 6))
  rw [← t3] at g3
  obtain ⟨τ4, t4⟩ : ∃ z, z = m_push τ3 (τ3 5 (ix 0)) := ⟨_, rfl⟩
  have hM := hM.trans (bd_e t4)
  have g4 := mpu56 τ3 (τ3 5 (ix 0))
  rw [← t4] at g4
  obtain ⟨τ5, t5⟩ : ∃ z, z = m_push τ4 (τ4 5 (ix 1)) := ⟨_, rfl⟩
  have hM := hM.trans (bd_e t5)
  have g5 := mpu56 τ4 (τ4 5 (ix 1))
  rw [← t5] at g5
  obtain ⟨τ6, t6⟩ : ∃ z, z = m_push τ5 (τ5 5 (ix 2)) := ⟨_, rfl⟩
  have hM := hM.trans (bd_e t6)
  have g6 := mpu56 τ5 (τ5 5 (ix 2))
  rw [← t6] at g6
  obtain ⟨τ7, t7⟩ : ∃ z, z = m_push τ6 (τ6 5 (ix 3)) := ⟨_, rfl⟩
  have hM := hM.trans (bd_e t7)
  have g7 := mpu56 τ6 (τ6 5 (ix 3))
  rw [← t7] at g7
  obtain ⟨τ8, t8⟩ : ∃ z, z = m_push τ7 (τ7 5 (ix 4)) := ⟨_, rfl⟩
  have hM := hM.trans (bd_e t8)
  have g8 := mpu56 τ7 (τ7 5 (ix 4))
  rw [← t8] at g8
  obtain ⟨τ9, t9⟩ : ∃ z, z = m_push τ8 (τ8 5 (ix 5)) := ⟨_, rfl⟩
  have hM := hM.trans (bd_e t9)
  have g9 := mpu56 τ8 (τ8 5 (ix 5))
  rw [← t9] at g9
  have g10 := mpu56 τ9 (1000 + τ9 0 10)
  have hM : mfr τ b = m_push τ9 (1000 + τ9 0 10) := hM
  rw [hM]
  exact ⟨g10.1.trans (g9.1.trans (g8.1.trans (g7.1.trans (g6.1.trans (g5.1.trans (g4.1.trans (g3.1.trans (g2.1.trans g1.1)))))))), g10.2.trans (g9.2.trans (g8.2.trans (g7.2.trans (g6.2.trans (g5.2.trans (g4.2.trans (g3.2.trans (g2.2.trans g1.2))))))))⟩
theorem pc226 (τ : St) (x y : Int32) : pcOK (m_take_226_8_7 τ x y) := vin_m (x := τ 1 (ix (((8 * y) + x) &&& 255))) (m := 255) (n := 256) 8 (by decide) (by decide) (by decide)
theorem pc197 (τ : St) (x z y : Int32) : pcOK (m_take_197_11 τ x z y) := by
  unfold m_take_197_11
  simp only [bd]
  split <;> exact pc226 _ _ _
theorem pc181 (τ : St) (x z : Int32) : pcOK (m_take_181 τ x z) := by
  unfold m_take_181
  split <;> exact pc197 _ _ _ _
theorem pc164 (τ : St) (x y z : Int32) : pcOK (m_take_164 τ x y z) := by
  unfold m_take_164
  simp only [bd]
  repeat' (first | exact pc181 _ _ _ | split)
theorem pc134_6 (τ : St) (x y z : Int32) : pcOK (m_take_134_6 τ x y z) := pc164 _ _ _ _
theorem pc134_5 (τ : St) (x y z : Int32) : pcOK (m_take_134_5 τ x y z) := by
  unfold m_take_134_5
  simp only [bd]
  repeat' (first | exact pc164 _ _ _ _ | exact pc134_6 _ _ _ _ | split)
theorem pc134_4 (τ : St) (x y z : Int32) : pcOK (m_take_134_4 τ x y z) := by
  unfold m_take_134_4
  simp only [bd]
  repeat' (first | exact pc164 _ _ _ _ | exact pc134_5 _ _ _ _ | split)
theorem pc134_3 (τ : St) (x y z : Int32) : pcOK (m_take_134_3 τ x y z) := by
  unfold m_take_134_3
  simp only [bd]
  repeat' (first | exact pc164 _ _ _ _ | exact pc134_4 _ _ _ _ | split)
theorem pc134_2 (τ : St) (x y z : Int32) : pcOK (m_take_134_2 τ x y z) := by
  unfold m_take_134_2
  simp only [bd]
  repeat' (first | exact pc164 _ _ _ _ | exact pc134_3 _ _ _ _ | split)
theorem pc134_1 (τ : St) (x y z : Int32) : pcOK (m_take_134_1 τ x y z) := by
  unfold m_take_134_1
  simp only [bd]
  repeat' (first | exact pc164 _ _ _ _ | exact pc134_2 _ _ _ _ | split)
theorem pc134_0 (τ : St) (x y z : Int32) : pcOK (m_take_134_0 τ x y z) := by
  unfold m_take_134_0
  simp only [bd]
  repeat' (first | exact pc164 _ _ _ _ | exact pc134_1 _ _ _ _ | split)
theorem pc129 (τ : St) (x y z a b : Int32) : pcOK (m_take_129_6 τ x y z a b) := pc134_0 _ _ _ _
theorem pc96 (τ : St) (x y : Int32) : pcOK (m_take_96 τ x y) := by
  unfold m_take_96
  simp only [bd2]
  split <;> exact pc129 _ _ _ _ _ _
theorem pc_m_take {σ σ' : St} {x b : Int32} (e : σ' = m_take σ x b) (h : pcOK σ) : pcOK σ' := by
  subst e
  rw [m_take_split]
  have g := mfr56 (m_keep σ) b
  generalize mfr (m_keep σ) b = τ at *
  unfold mrest
  simp only [bd2, bd]
  split
  · split <;> exact pc96 _ _ _
  · show vp_in (m_takeBack τ 5 (ix 7)) 256
    rw [back5]
    show vp_in (τ 6 7) 256
    rw [g.2]
    exact h
