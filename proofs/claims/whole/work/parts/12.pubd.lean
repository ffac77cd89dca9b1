-- run
theorem itr_s (f : St → St) (j : Nat) (σ : St) : itr f (j + 1) σ = itr f j (f σ) := rfl
theorem kr_s (f : Nat) (σ : St) (x : Int32) : k_run_15 (f + 1) σ x = if (σ 0 11) = 0 then bd (k_step σ) fun σ1 => k_run_15 f σ1 (x + 1) else (σ, x) := rfl
theorem mr_s (f : Nat) (σ : St) (x : Int32) : m_run_15 (f + 1) σ x = if (σ 0 11) = 0 then bd (m_step σ) fun σ1 => m_run_15 f σ1 (x + 1) else (σ, x) := rfl
theorem run_n : ∀ (f : Nat) (σ τ : St) (x : Int32), RR σ τ → JJ σ → PP (k_run_15 f σ x) (m_run_15 f τ x) := by
  intro f
  induction f with
  | zero => exact fun σ τ x hR hJ => ⟨rfl, hR, hJ⟩
  | succ f ih =>
    intro σ τ x hR hJ
    have e11 : τ 0 11 = σ 0 11 := by
      rw [hR.1 0 (by decide)]
      rfl
    rw [kr_s, mr_s, e11]
    by_cases h : σ 0 11 = 0
    · rw [if_pos h, if_pos h]
      obtain ⟨a, b⟩ := step_eq hR hJ
      rw [bd_e (y := k_step σ) rfl, bd_e (y := m_step τ) rfl]
      exact ih (k_step σ) (m_step τ) (x + 1) a b
    · rw [if_neg h, if_neg h]
      exact ⟨rfl, hR, hJ⟩
theorem eq_run {σ τ : St} (hR : RR σ τ) (hJ : JJ σ) (a : Int32) : PP (k_run σ a) (m_run τ a) := by
  unfold k_run m_run
  by_cases h1 : a < 0
  · rw [if_pos h1, if_pos h1]
    exact ⟨rfl, hR, hJ⟩
  rw [if_neg h1, if_neg h1]
  by_cases h2 : a ≤ 200
  · rw [if_pos h2, if_pos h2]
    exact run_n _ _ _ _ hR hJ
  · rw [if_neg h2, if_neg h2]
    exact ⟨rfl, hR, hJ⟩
theorem it_J : ∀ (j : Nat) (σ τ : St), RR σ τ → JJ σ → RR (itr k_step j σ) (itr m_step j τ) ∧ JJ (itr k_step j σ) := by
  intro j
  induction j with
  | zero => exact fun σ τ hR hJ => ⟨hR, hJ⟩
  | succ j ih =>
    intro σ τ hR hJ
    rw [itr_s, itr_s]
    exact ih (k_step σ) (m_step τ) (step_eq hR hJ).1 (step_eq hR hJ).2
theorem act_J {σ : St} (h : JJ σ) : actOK σ := by
  have h6 := JJ_ac h
  show bt0 (σ 6 6) 7
  rcases h6 with z | z | z | z | z | z | z <;> rw [z] <;> decide
theorem pc_J {σ τ : St} (hR : RR σ τ) (h : JJ σ) : pcOK τ := by
  show vp_in (τ 5 (ix 7)) 256
  have e : τ 5 (ix 7) = σ 6 3 := by
    rw [hR.1 5 (by decide)]
    rfl
  have h3 : b8 (σ 6 3) := JJ_pc h
  rw [e, nat_nI (σ 6 3)]
  exact vp_in_nI h3 (by decide)
