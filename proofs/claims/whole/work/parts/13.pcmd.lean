theorem pc226e (τ : St) (x y : Int32) : m_take_226_8_7 τ x y = up2 (up2 (up2 τ 5 (ix 7) ((τ 1 (ix (((8 * y) + x) &&& 255))) &&& 255)) 0 10 x) 0 13 x := rfl
theorem pc226 (τ : St) (x y : Int32) : pcOK (m_take_226_8_7 τ x y) := by
  rw [pc226e]
  generalize τ 1 (ix (((8 * y) + x) &&& 255)) = z
  show vp_in ((up2 τ 5 (ix 7) (z &&& 255)) 5 (ix 7)) 256
  rw [up2_at]
  exact vin_m 8 (by decide) (by decide) (by decide)
theorem pc197 (τ : St) (x z y : Int32) : pcOK (m_take_197_11 τ x z y) := by
  unfold m_take_197_11
  rw [bd_e (y := up2 τ 5 (ix 11) y) rfl]
  by_cases h : z = 0
  · rw [if_pos h]
    exact pc226 _ _ _
  · rw [if_neg h]
    exact pc226 _ _ _
theorem pc181 (τ : St) (x z : Int32) : pcOK (m_take_181 τ x z) := by
  unfold m_take_181
  by_cases h : z = 0
  · rw [if_pos h]
    exact pc197 _ _ _ _
  · rw [if_neg h]
    exact pc197 _ _ _ _
