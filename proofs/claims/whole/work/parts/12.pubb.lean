-- region
def k2 (σ : St) (i : Nat) : St := fun c => if c = 2 then (fun j => if i ≤ j ∧ j < 256 then kof (σ 3) (σ 4) (σ 5) (nI j) else σ 2 j) else σ c
theorem reg63 : ∀ (f i : Nat) (σ : St), i + f = 256 → k_region_63 f σ (nI i) = (k2 σ i, 1) := by
  intro f
  induction f with
  | zero =>
    intro i σ hi
    have e : k2 σ i = σ := by
      funext c j
      unfold k2
      by_cases hc : c = 2
      · subst hc
        simp only [if_true]
        rw [if_neg (by omega)]
      · rw [if_neg hc]
    rw [e]
    rfl
  | succ f ih =>
    intro i σ hi
    have e : k_region_63 (f + 1) σ (nI i) = k_region_63 f (up2 σ 2 (ix (nI i)) (kof (σ 3) (σ 4) (σ 5) (nI i))) (nI i + 1) := by
      show (bd2 (k_kindByRegions σ (nI i)) fun σ1 v2 => bd (up2 σ1 2 (ix (nI i)) v2) fun σ3 => k_region_63 f σ3 (nI i + 1)) = _
      rw [kk]
      rfl
    rw [e, nI_1, show ix (nI i) = i from nI_clamp (by omega), ih (i + 1) _ (by omega)]
    congr 1
    funext c j
    unfold k2
    by_cases hc : c = 2
    · subst hc
      simp only [if_true]
      by_cases hj : j = i
      · subst hj
        rw [if_neg (by omega), if_pos (by omega)]
        exact up2_at
      · have h4 : up2 σ 2 i (kof (σ 3) (σ 4) (σ 5) (nI i)) 2 j = σ 2 j := up2_k hj
        by_cases h : i + 1 ≤ j ∧ j < 256
        · rw [if_pos h, if_pos (by omega)]
          rfl
        · rw [if_neg h, if_neg (by omega)]
          exact h4
    · rw [if_neg hc, if_neg hc]
      exact congrFun (up2_c hc) j
theorem reg0 (n : Nat) (hn : 0 + n = 256) (σ : St) : k_region_63 n σ 0 = (k2 σ 0, 1) := by
  have h := reg63 n 0 σ hn
  rw [nI_0] at h
  exact h
theorem regb (n : Nat) (hn : 0 + n = 256) (σ : St) (i : Nat) (b c d : Int32) : (bd (up2 σ 3 i b) fun σ11 => bd (up2 σ11 4 i c) fun σ12 => bd (up2 σ12 5 i d) fun σ13 => k_region_63 n σ13 0) = (k2 (up2 (up2 (up2 σ 3 i b) 4 i c) 5 i d) 0, 1) := by
  rw [bd_e (y := up2 σ 3 i b) rfl, bd_e (y := up2 (up2 σ 3 i b) 4 i c) rfl, bd_e (y := up2 (up2 (up2 σ 3 i b) 4 i c) 5 i d) rfl]
  exact reg0 n hn _
theorem eq_region {σ τ : St} (hR : RR σ τ) (hJ : JJ σ) (a b c d : Int32) : PP (k_region σ a b c d) (m_region τ a b c d) := by
  unfold k_region m_region
  by_cases h1 : a < 0
  · rw [if_pos h1, if_pos h1]
    exact ⟨rfl, hR, hJ⟩
  rw [if_neg h1, if_neg h1]
  by_cases h2 : 4 ≤ a
  · rw [if_pos h2, if_pos (n3.mpr h2)]
    exact ⟨rfl, hR, hJ⟩
  rw [if_neg h2, if_neg (fun z => h2 (n3.mp z))]
  by_cases h3 : d < 0
  · rw [if_pos h3, if_pos h3]
    exact ⟨rfl, hR, hJ⟩
  rw [if_neg h3, if_neg h3]
  by_cases h4 : d ≤ 2
  · rw [if_pos h4, if_neg (Int32.not_lt.mpr h4)]
    by_cases g1 : b < 0 ∨ 256 ≤ b
    · rw [bd2_e (ia_f g1).symm, bd2_e (ja_f g1).symm]
      exact ⟨rfl, hR, hJ⟩
    have g1 : ¬ b < 0 ∧ ¬ 256 ≤ b := ⟨fun z => g1 (Or.inl z), fun z => g1 (Or.inr z)⟩
    rw [bd2_e (ia_t g1.1 g1.2).symm, bd2_e (ja_t g1.1 g1.2).symm, if_neg (by decide), if_neg (by decide)]
    by_cases g2 : c < 0 ∨ 256 ≤ c
    · rw [bd2_e (ia_f g2).symm, bd2_e (ja_f g2).symm]
      exact ⟨rfl, hR, hJ⟩
    have g2 : ¬ c < 0 ∧ ¬ 256 ≤ c := ⟨fun z => g2 (Or.inl z), fun z => g2 (Or.inr z)⟩
    rw [bd2_e (ia_t g2.1 g2.2).symm, bd2_e (ja_t g2.1 g2.2).symm, if_neg (by decide), if_neg (by decide)]
    rw [regb 256 rfl σ (ix a) b c d]
    have e3 : (bd (up2 τ 2 (ix a) b) fun σ11 => bd (up2 σ11 3 (ix a) c) fun σ12 => bd (up2 σ12 4 (ix a) d) fun σ13 => (σ13, (1 : Int32))) = (up2 (up2 (up2 τ 2 (ix a) b) 3 (ix a) c) 4 (ix a) d, 1) := rfl
    rw [e3]
    refine ⟨rfl, ?_, ?_⟩
    · have r1 := RR_up (c := 3) (k := ix a) (v := b) hR (show vK (up2 σ 3 (ix a) b) = up2 (vK σ) 2 (ix a) b from st_ext rfl rfl rfl rfl rfl rfl rfl (fun _ => rfl)) (by decide)
      have r2 := RR_up (c := 4) (k := ix a) (v := c) r1 (show vK (up2 (up2 σ 3 (ix a) b) 4 (ix a) c) = up2 (vK (up2 σ 3 (ix a) b)) 3 (ix a) c from st_ext rfl rfl rfl rfl rfl rfl rfl (fun _ => rfl)) (by decide)
      have r3 := RR_up (c := 5) (k := ix a) (v := d) r2 (show vK (up2 (up2 (up2 σ 3 (ix a) b) 4 (ix a) c) 5 (ix a) d) = up2 (vK (up2 (up2 σ 3 (ix a) b) 4 (ix a) c)) 4 (ix a) d from st_ext rfl rfl rfl rfl rfl rfl rfl (fun _ => rfl)) (by decide)
      have e4 : vK (k2 (up2 (up2 (up2 σ 3 (ix a) b) 4 (ix a) c) 5 (ix a) d) 0) = vK (up2 (up2 (up2 σ 3 (ix a) b) 4 (ix a) c) 5 (ix a) d) := st_ext rfl rfl rfl rfl rfl rfl rfl (fun _ => rfl)
      exact ⟨fun z hz => (r3.1 z hz).trans (congrFun e4.symm z), r3.2⟩
    · refine ⟨fun j hj => ?_, hJ.2⟩
      show (if 0 ≤ j ∧ j < 256 then _ else _) = _
      rw [if_pos ⟨Nat.zero_le _, hj⟩]
      rfl
  · rw [if_neg h4, if_pos (Int32.not_le.mp h4)]
    exact ⟨rfl, hR, hJ⟩
