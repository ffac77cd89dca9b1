-- register
theorem kr_0 {σ : St} : (k_register σ 0).2 = σ 8 (ix 0) := by
  unfold k_register
  rw [if_neg (by decide), if_neg (by decide)]
theorem mr_0 {τ : St} : (m_register τ 0).2 = τ 5 (ix 0) := by
  unfold m_register
  rw [if_neg (by decide), if_pos (by decide), if_neg (by decide)]
theorem kr_1 {σ : St} : (k_register σ 1).2 = σ 8 (ix 1) := by
  unfold k_register
  rw [if_neg (by decide), if_neg (by decide)]
theorem mr_1 {τ : St} : (m_register τ 1).2 = τ 5 (ix 1) := by
  unfold m_register
  rw [if_neg (by decide), if_pos (by decide), if_neg (by decide)]
theorem kr_2 {σ : St} : (k_register σ 2).2 = σ 8 (ix 2) := by
  unfold k_register
  rw [if_neg (by decide), if_neg (by decide)]
theorem mr_2 {τ : St} : (m_register τ 2).2 = τ 5 (ix 2) := by
  unfold m_register
  rw [if_neg (by decide), if_pos (by decide), if_neg (by decide)]
theorem kr_3 {σ : St} : (k_register σ 3).2 = σ 8 (ix 3) := by
  unfold k_register
  rw [if_neg (by decide), if_neg (by decide)]
theorem mr_3 {τ : St} : (m_register τ 3).2 = τ 5 (ix 3) := by
  unfold m_register
  rw [if_neg (by decide), if_pos (by decide), if_neg (by decide)]
theorem kr_4 {σ : St} : (k_register σ 4).2 = σ 8 (ix 4) := by
  unfold k_register
  rw [if_neg (by decide), if_neg (by decide)]
theorem mr_4 {τ : St} : (m_register τ 4).2 = τ 5 (ix 4) := by
  unfold m_register
  rw [if_neg (by decide), if_pos (by decide), if_neg (by decide)]
theorem kr_5 {σ : St} : (k_register σ 5).2 = σ 8 (ix 5) := by
  unfold k_register
  rw [if_neg (by decide), if_neg (by decide)]
theorem mr_5 {τ : St} : (m_register τ 5).2 = τ 5 (ix 5) := by
  unfold m_register
  rw [if_neg (by decide), if_pos (by decide), if_neg (by decide)]
theorem kr_6 {σ : St} : (k_register σ 6).2 = σ 8 (ix 6) := by
  unfold k_register
  rw [if_neg (by decide), if_neg (by decide)]
theorem mr_6 {τ : St} : (m_register τ 6).2 = τ 5 (ix 6) := by
  unfold m_register
  rw [if_neg (by decide), if_pos (by decide), if_neg (by decide)]
theorem kr_7 {σ : St} : (k_register σ 7).2 = σ 6 3 := by
  unfold k_register k_register_20
  rw [if_neg (by decide), if_pos (by decide), if_pos rfl]
theorem mr_7 {τ : St} : (m_register τ 7).2 = τ 5 (ix 7) := by
  unfold m_register
  rw [if_neg (by decide), if_pos (by decide), if_neg (by decide)]
theorem kr_8 {σ : St} : (k_register σ 8).2 = σ 6 1 := by
  unfold k_register k_register_20
  rw [if_neg (by decide), if_pos (by decide), if_neg (by decide), if_pos rfl]
theorem mr_8 {τ : St} : (m_register τ 8).2 = τ 5 (ix 8) := by
  unfold m_register
  rw [if_neg (by decide), if_pos (by decide), if_neg (by decide)]
theorem kr_9 {σ : St} : (k_register σ 9).2 = σ 6 2 := by
  unfold k_register k_register_20
  rw [if_neg (by decide), if_pos (by decide), if_neg (by decide), if_neg (by decide), if_pos rfl]
theorem mr_9 {τ : St} : (m_register τ 9).2 = τ 5 (ix 9) := by
  unfold m_register
  rw [if_neg (by decide), if_pos (by decide), if_neg (by decide)]
theorem kr_10 {σ : St} (h : zb (σ 6 4)) : (k_register σ 10).2 = σ 6 4 := by
  unfold k_register k_register_20 k_register_111
  rw [if_neg (by decide), if_pos (by decide), if_neg (by decide), if_neg (by decide), if_neg (by decide), if_pos rfl]
  rcases h with z | z <;> rw [z] <;> rfl
theorem mr_10 {τ : St} : (m_register τ 10).2 = τ 5 (ix 10) := by
  unfold m_register
  rw [if_neg (by decide), if_pos (by decide), if_neg (by decide)]
theorem kr_11 {σ : St} (h : zb (σ 6 5)) : (k_register σ 11).2 = σ 6 5 := by
  unfold k_register k_register_20 k_register_127
  rw [if_neg (by decide), if_pos (by decide), if_neg (by decide), if_neg (by decide), if_neg (by decide), if_neg (by decide), if_pos rfl]
  rcases h with z | z <;> rw [z] <;> rfl
theorem mr_11 {τ : St} : (m_register τ 11).2 = τ 5 (ix 11) := by
  unfold m_register
  rw [if_neg (by decide), if_pos (by decide), if_neg (by decide)]
theorem kr_12 {σ : St} : (k_register σ 12).2 = σ 6 6 := by
  unfold k_register k_register_20
  rw [if_neg (by decide), if_pos (by decide), if_neg (by decide), if_neg (by decide), if_neg (by decide), if_neg (by decide), if_neg (by decide), if_pos rfl]
theorem mr_12 {τ : St} : (m_register τ 12).2 = τ 0 10 := by
  unfold m_register m_register_68
  rw [if_neg (by decide), if_pos (by decide), if_pos (by decide), if_pos rfl]
theorem kr_13 {σ : St} : (k_register σ 13).2 = σ 0 11 := by
  unfold k_register k_register_20
  rw [if_neg (by decide), if_pos (by decide), if_neg (by decide), if_neg (by decide), if_neg (by decide), if_neg (by decide), if_neg (by decide), if_neg (by decide), if_pos rfl]
theorem mr_13 {τ : St} : (m_register τ 13).2 = τ 0 11 := by
  unfold m_register m_register_68
  rw [if_neg (by decide), if_pos (by decide), if_pos (by decide), if_neg (by decide), if_pos rfl]
theorem kr_14 {σ : St} : (k_register σ 14).2 = σ 0 12 := by
  unfold k_register k_register_20
  rw [if_neg (by decide), if_pos (by decide), if_neg (by decide), if_neg (by decide), if_neg (by decide), if_neg (by decide), if_neg (by decide), if_neg (by decide), if_neg (by decide), if_pos rfl]
theorem mr_14 {τ : St} : (m_register τ 14).2 = τ 0 12 := by
  unfold m_register m_register_68
  rw [if_neg (by decide), if_pos (by decide), if_pos (by decide), if_neg (by decide), if_neg (by decide), if_pos rfl]
theorem kr_15 {σ : St} : (k_register σ 15).2 = σ 0 13 := by
  unfold k_register k_register_20
  rw [if_neg (by decide), if_pos (by decide), if_neg (by decide), if_neg (by decide), if_neg (by decide), if_neg (by decide), if_neg (by decide), if_neg (by decide), if_neg (by decide), if_neg (by decide), if_pos rfl]
theorem mr_15 {τ : St} : (m_register τ 15).2 = τ 0 13 := by
  unfold m_register m_register_68
  rw [if_neg (by decide), if_pos (by decide), if_pos (by decide), if_neg (by decide), if_neg (by decide), if_neg (by decide)]
theorem reg_f (j : Nat) (hj : j < 16) {σ τ : St} (hR : RR σ τ) (hJ : JJ σ) : (k_register σ (nI j)).2 = (m_register τ (nI j)).2 := by
  have h5 : τ 5 = rg (σ 6) (σ 8) := hR.1 5 (by decide)
  have h0 : τ 0 = v0 σ (σ 6 6) := hR.1 0 (by decide)
  match j, hj with
  | 0, _ => exact kr_0.trans ((congrFun h5 0).symm.trans mr_0.symm)
  | 1, _ => exact kr_1.trans ((congrFun h5 1).symm.trans mr_1.symm)
  | 2, _ => exact kr_2.trans ((congrFun h5 2).symm.trans mr_2.symm)
  | 3, _ => exact kr_3.trans ((congrFun h5 3).symm.trans mr_3.symm)
  | 4, _ => exact kr_4.trans ((congrFun h5 4).symm.trans mr_4.symm)
  | 5, _ => exact kr_5.trans ((congrFun h5 5).symm.trans mr_5.symm)
  | 6, _ => exact kr_6.trans ((congrFun h5 6).symm.trans mr_6.symm)
  | 7, _ => exact kr_7.trans ((congrFun h5 7).symm.trans mr_7.symm)
  | 8, _ => exact kr_8.trans ((congrFun h5 8).symm.trans mr_8.symm)
  | 9, _ => exact kr_9.trans ((congrFun h5 9).symm.trans mr_9.symm)
  | 10, _ => exact (kr_10 (JJ_zz hJ)).trans ((congrFun h5 10).symm.trans mr_10.symm)
  | 11, _ => exact (kr_11 (JJ_zo hJ)).trans ((congrFun h5 11).symm.trans mr_11.symm)
  | 12, _ => exact kr_12.trans ((congrFun h0 10).symm.trans mr_12.symm)
  | 13, _ => exact kr_13.trans ((congrFun h0 11).symm.trans mr_13.symm)
  | 14, _ => exact kr_14.trans ((congrFun h0 12).symm.trans mr_14.symm)
  | 15, _ => exact kr_15.trans ((congrFun h0 13).symm.trans mr_15.symm)
  | j + 16, hj => exact absurd hj (by omega)
theorem k_reg1 (σ : St) (a : Int32) : (k_register σ a).1 = σ := by
  unfold k_register k_register_20 k_register_111 k_register_127
  repeat' (first | rfl | split)
theorem m_reg1 (σ : St) (a : Int32) : (m_register σ a).1 = σ := by
  unfold m_register m_register_10 m_register_68
  repeat' (first | rfl | split)
theorem eq_register {σ τ : St} (hR : RR σ τ) (hJ : JJ σ) (a : Int32) : PP (k_register σ a) (m_register τ a) := by
  refine ⟨?_, by rw [k_reg1, m_reg1]; exact hR, by rw [k_reg1]; exact hJ⟩
  by_cases h1 : a < 0
  · have e : (m_register τ a).2 = -1 := by
      unfold m_register
      rw [if_pos h1]
      rfl
    have n : ∀ k : Int32, ¬ k < 0 → ¬ a = k := fun k hk z => hk (z ▸ h1)
    rw [e]
    unfold k_register k_register_20
    rw [if_pos h1, if_neg (n 7 (by decide)), if_neg (n 8 (by decide)), if_neg (n 9 (by decide)), if_neg (n 10 (by decide)), if_neg (n 11 (by decide)), if_neg (n 12 (by decide)), if_neg (n 13 (by decide)), if_neg (n 14 (by decide)), if_neg (n 15 (by decide))]
  · by_cases h2 : a ≤ 15
    · obtain ⟨j, hj, rfl⟩ := nI_of2 (M := 15) (n := 15) (by decide) h1 h2
      exact reg_f j (by omega) hR hJ
    · have e : (m_register τ a).2 = -1 := by
        unfold m_register
        rw [if_neg h1, if_neg h2]
        rfl
      have n : ∀ k : Int32, k ≤ 15 → ¬ a = k := fun k hk z => h2 (z ▸ hk)
      have h6 : (6 : Int32) < a := by
        have := Int32.lt_iff_toInt_lt.mp (Int32.not_le.mp h2)
        rw [Int32.lt_iff_toInt_lt]
        have e1 : (15 : Int32).toInt = 15 := by decide
        have e2 : (6 : Int32).toInt = 6 := by decide
        omega
      rw [e]
      unfold k_register k_register_20
      rw [if_neg h1, if_pos h6, if_neg (n 7 (by decide)), if_neg (n 8 (by decide)), if_neg (n 9 (by decide)), if_neg (n 10 (by decide)), if_neg (n 11 (by decide)), if_neg (n 12 (by decide)), if_neg (n 13 (by decide)), if_neg (n 14 (by decide)), if_neg (n 15 (by decide))]
