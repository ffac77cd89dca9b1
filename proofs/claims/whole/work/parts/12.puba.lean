-- the public calls: the same answer, and the relation again
def PP (x y : St × Int32) : Prop := x.2 = y.2 ∧ RR x.1 y.1 ∧ JJ x.1
theorem eq_poke {σ τ : St} (hR : RR σ τ) (hJ : JJ σ) (a v : Int32) : PP (k_poke σ a v) (m_poke τ a v) := by
  refine ⟨?_, RR_up hR vK_1 (by decide), JJ_1 hJ (wd_and _)⟩
  show σ 1 _ = τ 1 _
  rw [hR.1 1 (by decide)]
  rfl
theorem eq_word {σ τ : St} (hR : RR σ τ) (hJ : JJ σ) (a : Int32) : PP (k_word σ a) (m_word τ a) := by
  refine ⟨?_, hR, hJ⟩
  show σ 1 _ = τ 1 _
  rw [hR.1 1 (by decide)]
  rfl
theorem eq_kind {σ τ : St} (hR : RR σ τ) (hJ : JJ σ) (a : Int32) : PP (k_kind σ a) (m_kind τ a) := by
  have e : m_kind τ a = (τ, kof (τ 2) (τ 3) (τ 4) (a &&& 255)) := by
    unfold m_kind
    rw [mk]
    rfl
  rw [e, hR.1 2 (by decide), hR.1 3 (by decide), hR.1 4 (by decide)]
  refine ⟨?_, hR, hJ⟩
  show σ 2 (ix (a &&& 255)) = kof (σ 3) (σ 4) (σ 5) (a &&& 255)
  have h : (a &&& 255).toBitVec.toNat < 256 := and_lt a 255 (by decide)
  rw [wd_ix (Nat.lt_trans h (by decide)), hJ.1 _ h, ← nat_nI]
theorem lt7 {a : Int32} (h1 : ¬ a < 0) (h2 : a ≤ 6) : ix a < 7 := by
  obtain ⟨j, hj, rfl⟩ := nI_of2 (M := 6) (n := 6) (by decide) h1 h2
  have : ix (nI j) = j := nI_clamp (by omega)
  omega
theorem eq_set {σ τ : St} (hR : RR σ τ) (hJ : JJ σ) (a v : Int32) : PP (k_set σ a v) (m_set τ a v) := by
  unfold k_set m_set
  by_cases h1 : a < 0
  · rw [if_pos h1, if_pos h1]
    exact ⟨rfl, hR, hJ⟩
  · rw [if_neg h1, if_neg h1]
    by_cases h2 : a ≤ 6
    · rw [if_pos h2, if_pos h2]
      exact ⟨rfl, RR_up hR (vK_8 (lt7 h1 h2)) (by decide), JJ_8 hJ (wd_and _)⟩
    · rw [if_neg h2, if_neg h2]
      exact ⟨rfl, hR, hJ⟩
theorem eq_interrupt {σ τ : St} (hR : RR σ τ) (hJ : JJ σ) (a : Int32) : PP (k_interrupt σ a) (m_interrupt τ a) := by
  have h12 : τ 0 12 = σ 0 12 := by
    rw [hR.1 0 (by decide)]
    rfl
  unfold k_interrupt m_interrupt
  rw [h12]
  by_cases h1 : a < 3
  · rw [if_pos h1, if_pos h1]
    exact ⟨rfl, hR, hJ⟩
  · rw [if_neg h1, if_neg h1]
    by_cases h2 : a ≤ 6
    · rw [if_pos h2, if_pos h2]
      exact ⟨rfl, RR_up hR vK_0_12 (by decide), JJ_0 hJ⟩
    · rw [if_neg h2, if_neg h2]
      exact ⟨rfl, hR, hJ⟩
theorem ib_t {σ : St} {a : Int32} (h1 : ¬ a < 0) (h2 : a ≤ 31) : k_isBase σ a = (σ, 1) := by
  unfold k_isBase
  rw [if_neg h1, if_neg (Int32.not_lt.mpr h2)]
  rfl
theorem ib_f {σ : St} {a : Int32} (h : a < 0 ∨ ¬ a ≤ 31) : k_isBase σ a = (σ, 0) := by
  unfold k_isBase
  by_cases h1 : a < 0
  · rw [if_pos h1]
    rfl
  · rw [if_neg h1, if_pos (Int32.not_le.mp (h.resolve_left h1))]
    rfl
theorem eq_settings {σ τ : St} (hR : RR σ τ) (hJ : JJ σ) (a b c d : Int32) : PP (k_settings σ a b c d) (m_settings τ a b c d) := by
  unfold k_settings m_settings
  by_cases h1 : b < 0
  · rw [if_pos h1, if_pos h1]
    exact ⟨rfl, hR, hJ⟩
  rw [if_neg h1, if_neg h1]
  by_cases h2 : 15 < b
  · rw [if_pos h2, if_pos h2]
    exact ⟨rfl, hR, hJ⟩
  rw [if_neg h2, if_neg h2]
  by_cases h3 : c < 0
  · rw [if_pos h3, bd2_e (ib_f (Or.inl h3)).symm]
    exact ⟨rfl, hR, hJ⟩
  rw [if_neg h3]
  by_cases h4 : 31 < c
  · rw [if_pos h4, bd2_e (ib_f (Or.inr (Int32.not_le.mpr h4))).symm]
    exact ⟨rfl, hR, hJ⟩
  rw [if_neg h4, bd2_e (ib_t h3 (Int32.not_lt.mp h4)).symm, if_neg (by decide)]
  by_cases h5 : d < 0
  · rw [if_pos h5, bd2_e (ib_f (Or.inl h5)).symm]
    exact ⟨rfl, hR, hJ⟩
  rw [if_neg h5]
  by_cases h6 : d ≤ 31
  · rw [if_pos h6, bd2_e (ib_t h5 h6).symm, if_neg (by decide)]
    exact ⟨rfl, RR_up (RR_up (RR_up (RR_up hR vK_0_7 (by decide)) vK_0_8 (by decide)) vK_0_9 (by decide)) vK_0_10 (by decide), hJ⟩
  · rw [if_neg h6, bd2_e (ib_f (Or.inr h6)).symm]
    exact ⟨rfl, hR, hJ⟩
theorem n255 {a : Int32} : 255 < a ↔ 256 ≤ a := by
  rw [Int32.lt_iff_toInt_lt, Int32.le_iff_toInt_le]
  have e1 : (255 : Int32).toInt = 255 := by decide
  have e2 : (256 : Int32).toInt = 256 := by decide
  omega
theorem n3 {a : Int32} : 3 < a ↔ 4 ≤ a := by
  rw [Int32.lt_iff_toInt_lt, Int32.le_iff_toInt_le]
  have e1 : (3 : Int32).toInt = 3 := by decide
  have e2 : (4 : Int32).toInt = 4 := by decide
  omega
theorem ia_t {σ : St} {a : Int32} (h1 : ¬ a < 0) (h2 : ¬ 256 ≤ a) : k_isAddress σ a = (σ, 1) := by
  unfold k_isAddress
  rw [if_neg h1, if_neg h2]
  rfl
theorem ia_f {σ : St} {a : Int32} (h : a < 0 ∨ 256 ≤ a) : k_isAddress σ a = (σ, 0) := by
  unfold k_isAddress
  by_cases h1 : a < 0
  · rw [if_pos h1]
    rfl
  · rw [if_neg h1, if_pos (h.resolve_left h1)]
    rfl
theorem ja_t {σ : St} {a : Int32} (h1 : ¬ a < 0) (h2 : ¬ 256 ≤ a) : m_isAddress σ a = (σ, 1) := by
  unfold m_isAddress
  rw [if_neg h1, if_neg (fun z => h2 (n255.mp z))]
  rfl
theorem ja_f {σ : St} {a : Int32} (h : a < 0 ∨ 256 ≤ a) : m_isAddress σ a = (σ, 0) := by
  unfold m_isAddress
  by_cases h1 : a < 0
  · rw [if_pos h1]
    rfl
  · rw [if_neg h1, if_pos (n255.mpr (h.resolve_left h1))]
    rfl
theorem b8_of {a : Int32} (h1 : ¬ a < 0) (h2 : ¬ 256 ≤ a) : b8 a := by
  obtain ⟨j, hj, rfl⟩ := nI_of h1
  have a2 : ¬ nI 256 ≤ nI j := h2
  rw [nI_leI (by decide) hj] at a2
  show (nI j).toBitVec.toNat < 256
  rw [nI_nat (by omega)]
  omega
theorem eq_begin {σ τ : St} (hR : RR σ τ) (hJ : JJ σ) (a b c d : Int32) (hb : zb b) : PP (k_begin σ a b c d) (m_begin τ a b c d) := by
  unfold k_begin m_begin
  by_cases h : a < 0 ∨ 256 ≤ a
  · rw [bd2_e (ia_f h).symm, bd2_e (ja_f h).symm]
    exact ⟨rfl, hR, hJ⟩
  have h1 : ¬ a < 0 := fun z => h (Or.inl z)
  have h2 : ¬ 256 ≤ a := fun z => h (Or.inr z)
  rw [bd2_e (ia_t h1 h2).symm, bd2_e (ja_t h1 h2).symm, if_neg (by decide), if_neg (by decide)]
  have e : (bd (up2 τ 5 (ix 7) a) fun σ4 => if b = 0 then m_begin_32_11 σ4 c d 0 else m_begin_32_11 σ4 c d 1) = (up2 (up2 (up2 (up2 (up2 (up2 (up2 τ 5 7 a) 5 11 b) 5 8 (c &&& 65535)) 5 9 (d &&& 65535)) 0 10 0) 0 11 0) 0 12 0, 1) := by
    rw [up2_comm (c := 0) (c' := 0) (k := 10) (k' := 11) (Or.inr (by decide))]
    rcases hb with rfl | rfl <;> rfl
  rw [e]
  have e2 : (bd (up2 σ 6 3 a) fun σ4 => bd (up2 σ4 6 5 b) fun σ5 => bd (up2 σ5 6 1 (c &&& 65535)) fun σ6 => bd (up2 σ6 6 2 (d &&& 65535)) fun σ7 => bd (up2 σ7 6 6 0) fun σ8 => bd (up2 σ8 0 11 0) fun σ9 => bd (up2 σ9 0 12 0) fun σ10 => (σ10, (1 : Int32))) = (up2 (up2 (up2 (up2 (up2 (up2 (up2 σ 6 3 a) 6 5 b) 6 1 (c &&& 65535)) 6 2 (d &&& 65535)) 6 6 0) 0 11 0) 0 12 0, 1) := rfl
  rw [e2]
  exact ⟨rfl, RR_up (RR_up (RR_up (RR_up (RR_up (RR_up (RR_up hR vK_6_3 (by decide)) vK_6_5 (by decide)) vK_6_1 (by decide)) vK_6_2 (by decide)) vK_6_6 (by decide)) vK_0_11 (by decide)) vK_0_12 (by decide), JJ_0 (JJ_0 (JJ_6_6 (JJ_6_2 (JJ_6_1 (JJ_6_5 (JJ_6_3 hJ (b8_of h1 h2)) hb) (wd_and _)) (wd_and _)) (by decide)))⟩
