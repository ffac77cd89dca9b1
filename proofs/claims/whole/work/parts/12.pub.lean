-- the public calls: the same answer, and the relation again
def PP (x y : St × Int32) : Prop := x.2 = y.2 ∧ RR x.1 y.1 ∧ JJ x.1
theorem eq_poke {σ τ : St} (hR : RR σ τ) (hJ : JJ σ) (a v : Int32) : PP (k_poke σ a v) (m_poke τ a v) := by
  refine ⟨?_, RR_up hR vK_1 (by decide), JJ_1 hJ (wd_and _)⟩
  show σ 1 _ = τ 1 _
  rw [hR.1 1 (by decide)]
  rfl
theorem eq_word {σ τ : St} (hR : RR σ τ) (hJ : JJ σ) (a : Int32) : PP (k_word σ a) (m_word τ a) := by
  refine ⟨?_, hR, hJ⟩
  show σ 1 _ = τ 1 _
  rw [hR.1 1 (by decide)]
  rfl
theorem eq_kind {σ τ : St} (hR : RR σ τ) (hJ : JJ σ) (a : Int32) : PP (k_kind σ a) (m_kind τ a) := by
  have e : m_kind τ a = (τ, kof (τ 2) (τ 3) (τ 4) (a &&& 255)) := by
    unfold m_kind
    rw [mk]
    rfl
  rw [e, hR.1 2 (by decide), hR.1 3 (by decide), hR.1 4 (by decide)]
  refine ⟨?_, hR, hJ⟩
  show σ 2 (ix (a &&& 255)) = kof (σ 3) (σ 4) (σ 5) (a &&& 255)
  have h : (a &&& 255).toBitVec.toNat < 256 := and_lt a 255 (by decide)
  rw [wd_ix (Nat.lt_trans h (by decide)), hJ.1 _ h, ← nat_nI]
theorem lt7 {a : Int32} (h1 : ¬ a < 0) (h2 : a ≤ 6) : ix a < 7 := by
  obtain ⟨j, hj, rfl⟩ := nI_of2 (M := 6) (n := 6) (by decide) h1 h2
  have : ix (nI j) = j := nI_clamp (by omega)
  omega
theorem eq_set {σ τ : St} (hR : RR σ τ) (hJ : JJ σ) (a v : Int32) : PP (k_set σ a v) (m_set τ a v) := by
  unfold k_set m_set
  by_cases h1 : a < 0
  · rw [if_pos h1, if_pos h1]
    exact ⟨rfl, hR, hJ⟩
  · rw [if_neg h1, if_neg h1]
    by_cases h2 : a ≤ 6
    · rw [if_pos h2, if_pos h2]
      exact ⟨rfl, RR_up hR (vK_8 (lt7 h1 h2)) (by decide), JJ_8 hJ (wd_and _)⟩
    · rw [if_neg h2, if_neg h2]
      exact ⟨rfl, hR, hJ⟩
theorem eq_interrupt {σ τ : St} (hR : RR σ τ) (hJ : JJ σ) (a : Int32) : PP (k_interrupt σ a) (m_interrupt τ a) := by
  have h12 : τ 0 12 = σ 0 12 := by
    rw [hR.1 0 (by decide)]
    rfl
  unfold k_interrupt m_interrupt
  rw [h12]
  by_cases h1 : a < 3
  · rw [if_pos h1, if_pos h1]
    exact ⟨rfl, hR, hJ⟩
  · rw [if_neg h1, if_neg h1]
    by_cases h2 : a ≤ 6
    · rw [if_pos h2, if_pos h2]
      exact ⟨rfl, RR_up hR vK_0_12 (by decide), JJ_0 hJ⟩
    · rw [if_neg h2, if_neg h2]
      exact ⟨rfl, hR, hJ⟩
theorem ib_t {σ : St} {a : Int32} (h1 : ¬ a < 0) (h2 : a ≤ 31) : k_isBase σ a = (σ, 1) := by
  unfold k_isBase
  rw [if_neg h1, if_neg (Int32.not_lt.mpr h2)]
  rfl
theorem ib_f {σ : St} {a : Int32} (h : a < 0 ∨ ¬ a ≤ 31) : k_isBase σ a = (σ, 0) := by
  unfold k_isBase
  by_cases h1 : a < 0
  · rw [if_pos h1]
    rfl
  · rw [if_neg h1, if_pos (Int32.not_le.mp (h.resolve_left h1))]
    rfl
theorem eq_settings {σ τ : St} (hR : RR σ τ) (hJ : JJ σ) (a b c d : Int32) : PP (k_settings σ a b c d) (m_settings τ a b c d) := by
  unfold k_settings m_settings
  by_cases h1 : b < 0
  · rw [if_pos h1, if_pos h1]
    exact ⟨rfl, hR, hJ⟩
  rw [if_neg h1, if_neg h1]
  by_cases h2 : 15 < b
  · rw [if_pos h2, if_pos h2]
    exact ⟨rfl, hR, hJ⟩
  rw [if_neg h2, if_neg h2]
  by_cases h3 : c < 0
  · rw [if_pos h3, bd2_e (ib_f (Or.inl h3)).symm]
    exact ⟨rfl, hR, hJ⟩
  rw [if_neg h3]
  by_cases h4 : 31 < c
  · rw [if_pos h4, bd2_e (ib_f (Or.inr (Int32.not_le.mpr h4))).symm]
    exact ⟨rfl, hR, hJ⟩
  rw [if_neg h4, bd2_e (ib_t h3 (Int32.not_lt.mp h4)).symm, if_neg (by decide)]
  by_cases h5 : d < 0
  · rw [if_pos h5, bd2_e (ib_f (Or.inl h5)).symm]
    exact ⟨rfl, hR, hJ⟩
  rw [if_neg h5]
  by_cases h6 : d ≤ 31
  · rw [if_pos h6, bd2_e (ib_t h5 h6).symm, if_neg (by decide)]
    exact ⟨rfl, RR_up (RR_up (RR_up (RR_up hR vK_0_7 (by decide)) vK_0_8 (by decide)) vK_0_9 (by decide)) vK_0_10 (by decide), hJ⟩
  · rw [if_neg h6, bd2_e (ib_f (Or.inr h6)).symm]
    exact ⟨rfl, hR, hJ⟩
theorem n255 {a : Int32} : 255 < a ↔ 256 ≤ a := by
  rw [Int32.lt_iff_toInt_lt, Int32.le_iff_toInt_le]
  have e1 : (255 : Int32).toInt = 255 := by decide
  have e2 : (256 : Int32).toInt = 256 := by decide
  omega
theorem n3 {a : Int32} : 3 < a ↔ 4 ≤ a := by
  rw [Int32.lt_iff_toInt_lt, Int32.le_iff_toInt_le]
  have e1 : (3 : Int32).toInt = 3 := by decide
  have e2 : (4 : Int32).toInt = 4 := by decide
  omega
theorem ia_t {σ : St} {a : Int32} (h1 : ¬ a < 0) (h2 : ¬ 256 ≤ a) : k_isAddress σ a = (σ, 1) := by
  unfold k_isAddress
  rw [if_neg h1, if_neg h2]
  rfl
theorem ia_f {σ : St} {a : Int32} (h : a < 0 ∨ 256 ≤ a) : k_isAddress σ a = (σ, 0) := by
  unfold k_isAddress
  by_cases h1 : a < 0
  · rw [if_pos h1]
    rfl
  · rw [if_neg h1, if_pos (h.resolve_left h1)]
    rfl
theorem ja_t {σ : St} {a : Int32} (h1 : ¬ a < 0) (h2 : ¬ 256 ≤ a) : m_isAddress σ a = (σ, 1) := by
  unfold m_isAddress
  rw [if_neg h1, if_neg (fun z => h2 (n255.mp z))]
  rfl
theorem ja_f {σ : St} {a : Int32} (h : a < 0 ∨ 256 ≤ a) : m_isAddress σ a = (σ, 0) := by
  unfold m_isAddress
  by_cases h1 : a < 0
  · rw [if_pos h1]
    rfl
  · rw [if_neg h1, if_pos (n255.mpr (h.resolve_left h1))]
    rfl
theorem b8_of {a : Int32} (h1 : ¬ a < 0) (h2 : ¬ 256 ≤ a) : b8 a := by
  obtain ⟨j, hj, rfl⟩ := nI_of h1
  have a2 : ¬ nI 256 ≤ nI j := h2
  rw [nI_leI (by decide) hj] at a2
  show (nI j).toBitVec.toNat < 256
  rw [nI_nat (by omega)]
  omega
theorem eq_begin {σ τ : St} (hR : RR σ τ) (hJ : JJ σ) (a b c d : Int32) (hb : zb b) : PP (k_begin σ a b c d) (m_begin τ a b c d) := by
  unfold k_begin m_begin
  by_cases h : a < 0 ∨ 256 ≤ a
  · rw [bd2_e (ia_f h).symm, bd2_e (ja_f h).symm]
    exact ⟨rfl, hR, hJ⟩
  have h1 : ¬ a < 0 := fun z => h (Or.inl z)
  have h2 : ¬ 256 ≤ a := fun z => h (Or.inr z)
  rw [bd2_e (ia_t h1 h2).symm, bd2_e (ja_t h1 h2).symm, if_neg (by decide), if_neg (by decide)]
  have e : (bd (up2 τ 5 (ix 7) a) fun σ4 => if b = 0 then m_begin_32_11 σ4 c d 0 else m_begin_32_11 σ4 c d 1) = (up2 (up2 (up2 (up2 (up2 (up2 (up2 τ 5 7 a) 5 11 b) 5 8 (c &&& 65535)) 5 9 (d &&& 65535)) 0 10 0) 0 11 0) 0 12 0, 1) := by
    rw [up2_comm (c := 0) (c' := 0) (k := 10) (k' := 11) (Or.inr (by decide))]
    rcases hb with rfl | rfl <;> rfl
  rw [e]
  have e2 : (bd (up2 σ 6 3 a) fun σ4 => bd (up2 σ4 6 5 b) fun σ5 => bd (up2 σ5 6 1 (c &&& 65535)) fun σ6 => bd (up2 σ6 6 2 (d &&& 65535)) fun σ7 => bd (up2 σ7 6 6 0) fun σ8 => bd (up2 σ8 0 11 0) fun σ9 => bd (up2 σ9 0 12 0) fun σ10 => (σ10, (1 : Int32))) = (up2 (up2 (up2 (up2 (up2 (up2 (up2 σ 6 3 a) 6 5 b) 6 1 (c &&& 65535)) 6 2 (d &&& 65535)) 6 6 0) 0 11 0) 0 12 0, 1) := rfl
  rw [e2]
  exact ⟨rfl, RR_up (RR_up (RR_up (RR_up (RR_up (RR_up (RR_up hR vK_6_3 (by decide)) vK_6_5 (by decide)) vK_6_1 (by decide)) vK_6_2 (by decide)) vK_6_6 (by decide)) vK_0_11 (by decide)) vK_0_12 (by decide), JJ_0 (JJ_0 (JJ_6_6 (JJ_6_2 (JJ_6_1 (JJ_6_5 (JJ_6_3 hJ (b8_of h1 h2)) hb) (wd_and _)) (wd_and _)) (by decide)))⟩
-- region
def k2 (σ : St) (i : Nat) : St := fun c => if c = 2 then (fun j => if i ≤ j ∧ j < 256 then kof (σ 3) (σ 4) (σ 5) (nI j) else σ 2 j) else σ c
theorem reg63 : ∀ (f i : Nat) (σ : St), i + f = 256 → k_region_63 f σ (nI i) = (k2 σ i, 1) := by
  intro f
  induction f with
  | zero =>
    intro i σ hi
    have e : k2 σ i = σ := by
      funext c j
      unfold k2
      by_cases hc : c = 2
      · subst hc
        simp only [if_true]
        rw [if_neg (by omega)]
      · rw [if_neg hc]
    rw [e]
    rfl
  | succ f ih =>
    intro i σ hi
    have e : k_region_63 (f + 1) σ (nI i) = k_region_63 f (up2 σ 2 (ix (nI i)) (kof (σ 3) (σ 4) (σ 5) (nI i))) (nI i + 1) := by
      show (bd2 (k_kindByRegions σ (nI i)) fun σ1 v2 => bd (up2 σ1 2 (ix (nI i)) v2) fun σ3 => k_region_63 f σ3 (nI i + 1)) = _
      rw [kk]
      rfl
    rw [e, nI_1, show ix (nI i) = i from nI_clamp (by omega), ih (i + 1) _ (by omega)]
    congr 1
    funext c j
    unfold k2
    by_cases hc : c = 2
    · subst hc
      simp only [if_true]
      by_cases hj : j = i
      · subst hj
        rw [if_neg (by omega), if_pos (by omega)]
        exact up2_at
      · have h4 : up2 σ 2 i (kof (σ 3) (σ 4) (σ 5) (nI i)) 2 j = σ 2 j := up2_k hj
        by_cases h : i + 1 ≤ j ∧ j < 256
        · rw [if_pos h, if_pos (by omega)]
          rfl
        · rw [if_neg h, if_neg (by omega)]
          exact h4
    · rw [if_neg hc, if_neg hc]
      exact up2_c hc
theorem eq_region {σ τ : St} (hR : RR σ τ) (hJ : JJ σ) (a b c d : Int32) : PP (k_region σ a b c d) (m_region τ a b c d) := by
  unfold k_region m_region
  by_cases h1 : a < 0
  · rw [if_pos h1, if_pos h1]
    exact ⟨rfl, hR, hJ⟩
  rw [if_neg h1, if_neg h1]
  by_cases h2 : 4 ≤ a
  · rw [if_pos h2, if_pos (n3.mpr h2)]
    exact ⟨rfl, hR, hJ⟩
  rw [if_neg h2, if_neg (fun z => h2 (n3.mp z))]
  by_cases h3 : d < 0
  · rw [if_pos h3, if_pos h3]
    exact ⟨rfl, hR, hJ⟩
  rw [if_neg h3, if_neg h3]
  by_cases h4 : d ≤ 2
  · rw [if_pos h4, if_neg (Int32.not_lt.mpr h4)]
    by_cases g1 : b < 0 ∨ 256 ≤ b
    · rw [bd2_e (ia_f g1).symm, bd2_e (ja_f g1).symm]
      exact ⟨rfl, hR, hJ⟩
    have g1 : ¬ b < 0 ∧ ¬ 256 ≤ b := ⟨fun z => g1 (Or.inl z), fun z => g1 (Or.inr z)⟩
    rw [bd2_e (ia_t g1.1 g1.2).symm, bd2_e (ja_t g1.1 g1.2).symm, if_neg (by decide), if_neg (by decide)]
    by_cases g2 : c < 0 ∨ 256 ≤ c
    · rw [bd2_e (ia_f g2).symm, bd2_e (ja_f g2).symm]
      exact ⟨rfl, hR, hJ⟩
    have g2 : ¬ c < 0 ∧ ¬ 256 ≤ c := ⟨fun z => g2 (Or.inl z), fun z => g2 (Or.inr z)⟩
    rw [bd2_e (ia_t g2.1 g2.2).symm, bd2_e (ja_t g2.1 g2.2).symm, if_neg (by decide), if_neg (by decide)]
    have e := reg63 256 0 (up2 (up2 (up2 σ 3 (ix a) b) 4 (ix a) c) 5 (ix a) d) rfl
    have e2 : (bd (up2 σ 3 (ix a) b) fun σ11 => bd (up2 σ11 4 (ix a) c) fun σ12 => bd (up2 σ12 5 (ix a) d) fun σ13 => k_region_63 256 σ13 0) = (k2 (up2 (up2 (up2 σ 3 (ix a) b) 4 (ix a) c) 5 (ix a) d) 0, 1) := e
    rw [e2]
    have e3 : (bd (up2 τ 2 (ix a) b) fun σ11 => bd (up2 σ11 3 (ix a) c) fun σ12 => bd (up2 σ12 4 (ix a) d) fun σ13 => (σ13, (1 : Int32))) = (up2 (up2 (up2 τ 2 (ix a) b) 3 (ix a) c) 4 (ix a) d, 1) := rfl
    rw [e3]
    refine ⟨rfl, ?_, ?_⟩
    · have r1 := RR_up (c := 3) (k := ix a) (v := b) hR (show vK (up2 σ 3 (ix a) b) = up2 (vK σ) 2 (ix a) b from st_ext rfl rfl rfl rfl rfl rfl rfl (fun _ => rfl)) (by decide)
      have r2 := RR_up (c := 4) (k := ix a) (v := c) r1 (show vK (up2 (up2 σ 3 (ix a) b) 4 (ix a) c) = up2 (vK (up2 σ 3 (ix a) b)) 3 (ix a) c from st_ext rfl rfl rfl rfl rfl rfl rfl (fun _ => rfl)) (by decide)
      have r3 := RR_up (c := 5) (k := ix a) (v := d) r2 (show vK (up2 (up2 (up2 σ 3 (ix a) b) 4 (ix a) c) 5 (ix a) d) = up2 (vK (up2 (up2 σ 3 (ix a) b) 4 (ix a) c)) 4 (ix a) d from st_ext rfl rfl rfl rfl rfl rfl rfl (fun _ => rfl)) (by decide)
      have e4 : vK (k2 (up2 (up2 (up2 σ 3 (ix a) b) 4 (ix a) c) 5 (ix a) d) 0) = vK (up2 (up2 (up2 σ 3 (ix a) b) 4 (ix a) c) 5 (ix a) d) := st_ext rfl rfl rfl rfl rfl rfl rfl (fun _ => rfl)
      exact ⟨fun z hz => (r3.1 z hz).trans (congrFun e4.symm z), r3.2⟩
    · refine ⟨fun j hj => ?_, hJ.2⟩
      show (if 0 ≤ j ∧ j < 256 then _ else _) = _
      rw [if_pos ⟨Nat.zero_le _, hj⟩]
      rfl
  · rw [if_neg h4, if_pos (Int32.not_le.mp h4)]
    exact ⟨rfl, hR, hJ⟩
-- register
theorem reg_f (j : Nat) (hj : j < 16) {σ τ : St} (hR : RR σ τ) (hJ : JJ σ) : (k_register σ (nI j)).2 = (m_register τ (nI j)).2 := by
  have h5 : τ 5 = rg (σ 6) (σ 8) := hR.1 5 (by decide)
  have h0 : τ 0 = v0 σ (σ 6 6) := hR.1 0 (by decide)
  match j, hj with
  | 0, _ => exact (congrFun h5 0).symm
  | 1, _ => exact (congrFun h5 1).symm
  | 2, _ => exact (congrFun h5 2).symm
  | 3, _ => exact (congrFun h5 3).symm
  | 4, _ => exact (congrFun h5 4).symm
  | 5, _ => exact (congrFun h5 5).symm
  | 6, _ => exact (congrFun h5 6).symm
  | 7, _ => exact (congrFun h5 7).symm
  | 8, _ => exact (congrFun h5 8).symm
  | 9, _ => exact (congrFun h5 9).symm
  | 10, _ =>
    have e : τ 5 10 = σ 6 4 := congrFun h5 10
    have a : (m_register τ (nI 10)).2 = τ 5 10 := rfl
    have b : (k_register σ (nI 10)).2 = (if (σ 6 4) = 0 then k_register_111 σ 0 else k_register_111 σ 1).2 := rfl
    rw [a, b, e]
    rcases JJ_zz hJ with z | z <;> rw [z] <;> rfl
  | 11, _ =>
    have e : τ 5 11 = σ 6 5 := congrFun h5 11
    have a : (m_register τ (nI 11)).2 = τ 5 11 := rfl
    have b : (k_register σ (nI 11)).2 = (if (σ 6 5) = 0 then k_register_127 σ 0 else k_register_127 σ 1).2 := rfl
    rw [a, b, e]
    rcases JJ_zo hJ with z | z <;> rw [z] <;> rfl
  | 12, _ => exact (congrFun h0 10).symm
  | 13, _ => exact (congrFun h0 11).symm
  | 14, _ => exact (congrFun h0 12).symm
  | 15, _ => exact (congrFun h0 13).symm
theorem k_reg1 (σ : St) (a : Int32) : (k_register σ a).1 = σ := by
  unfold k_register k_register_20 k_register_111 k_register_127
  repeat' (first | rfl | split)
theorem m_reg1 (σ : St) (a : Int32) : (m_register σ a).1 = σ := by
  unfold m_register m_register_10 m_register_68
  repeat' (first | rfl | split)
theorem eq_register {σ τ : St} (hR : RR σ τ) (hJ : JJ σ) (a : Int32) : PP (k_register σ a) (m_register τ a) := by
  refine ⟨?_, by rw [k_reg1, m_reg1]; exact hR, by rw [k_reg1]; exact hJ⟩
  by_cases h1 : a < 0
  · have e : (m_register τ a).2 = -1 := by
      unfold m_register
      rw [if_pos h1]
      rfl
    have n : ∀ k : Int32, ¬ k < 0 → ¬ a = k := fun k hk z => hk (z ▸ h1)
    rw [e]
    unfold k_register k_register_20
    rw [if_pos h1, if_neg (n 7 (by decide)), if_neg (n 8 (by decide)), if_neg (n 9 (by decide)), if_neg (n 10 (by decide)), if_neg (n 11 (by decide)), if_neg (n 12 (by decide)), if_neg (n 13 (by decide)), if_neg (n 14 (by decide)), if_neg (n 15 (by decide))]
  · by_cases h2 : a ≤ 15
    · obtain ⟨j, hj, rfl⟩ := nI_of2 (M := 15) (n := 15) (by decide) h1 h2
      exact reg_f j (by omega) hR hJ
    · have e : (m_register τ a).2 = -1 := by
        unfold m_register
        rw [if_neg h1, if_neg h2]
        rfl
      have n : ∀ k : Int32, k ≤ 15 → ¬ a = k := fun k hk z => h2 (z ▸ hk)
      have h6 : (6 : Int32) < a := by
        have := Int32.lt_iff_toInt_lt.mp (Int32.not_le.mp h2)
        rw [Int32.lt_iff_toInt_lt]
        have e1 : (15 : Int32).toInt = 15 := by decide
        have e2 : (6 : Int32).toInt = 6 := by decide
        omega
      rw [e]
      unfold k_register k_register_20
      rw [if_neg h1, if_pos h6, if_neg (n 7 (by decide)), if_neg (n 8 (by decide)), if_neg (n 9 (by decide)), if_neg (n 10 (by decide)), if_neg (n 11 (by decide)), if_neg (n 12 (by decide)), if_neg (n 13 (by decide)), if_neg (n 14 (by decide)), if_neg (n 15 (by decide))]
-- run
theorem run_n : ∀ (f : Nat) (σ τ : St) (x : Int32), RR σ τ → JJ σ → PP (k_run_15 f σ x) (m_run_15 f τ x) := by
  intro f
  induction f with
  | zero => exact fun σ τ x hR hJ => ⟨rfl, hR, hJ⟩
  | succ f ih =>
    intro σ τ x hR hJ
    have e11 : τ 0 11 = σ 0 11 := by
      rw [hR.1 0 (by decide)]
      rfl
    show PP (if (σ 0 11) = 0 then bd (k_step σ) fun σ1 => k_run_15 f σ1 (x + 1) else (σ, x)) (if (τ 0 11) = 0 then bd (m_step τ) fun σ1 => m_run_15 f σ1 (x + 1) else (τ, x))
    rw [e11]
    by_cases h : σ 0 11 = 0
    · rw [if_pos h, if_pos h]
      obtain ⟨a, b⟩ := step_eq hR hJ
      exact ih _ _ _ a b
    · rw [if_neg h, if_neg h]
      exact ⟨rfl, hR, hJ⟩
theorem eq_run {σ τ : St} (hR : RR σ τ) (hJ : JJ σ) (a : Int32) : PP (k_run σ a) (m_run τ a) := by
  unfold k_run m_run
  by_cases h1 : a < 0
  · rw [if_pos h1, if_pos h1]
    exact ⟨rfl, hR, hJ⟩
  rw [if_neg h1, if_neg h1]
  by_cases h2 : a ≤ 200
  · rw [if_pos h2, if_pos h2]
    exact run_n _ _ _ _ hR hJ
  · rw [if_neg h2, if_neg h2]
    exact ⟨rfl, hR, hJ⟩
theorem it_J : ∀ (j : Nat) (σ τ : St), RR σ τ → JJ σ → RR (itr k_step j σ) (itr m_step j τ) ∧ JJ (itr k_step j σ) := by
  intro j
  induction j with
  | zero => exact fun σ τ hR hJ => ⟨hR, hJ⟩
  | succ j ih => exact fun σ τ hR hJ => ih _ _ (step_eq hR hJ).1 (step_eq hR hJ).2
theorem act_J {σ : St} (h : JJ σ) : actOK σ := by
  have h6 := JJ_ac h
  show bt0 (σ 6 6) 7
  rcases h6 with z | z | z | z | z | z | z <;> rw [z] <;> decide
theorem pc_J {σ τ : St} (hR : RR σ τ) (h : JJ σ) : pcOK τ := by
  show vp_in (τ 5 (ix 7)) 256
  have e : τ 5 (ix 7) = σ 6 3 := by
    rw [hR.1 5 (by decide)]
    rfl
  have h3 : b8 (σ 6 3) := JJ_pc h
  rw [e, nat_nI (σ 6 3)]
  exact vp_in_nI h3 (by decide)
theorem fv (x : Int64) (n : Nat) (hn : n ≤ 48) (s1 : UInt64) (h1 : (s1.toBitVec % 64).toNat = n) (s2 : Int64) (h2 : (s2.toBitVec.smod 64).toNat = n) : (x.toUInt64 >>> s1).toInt64.toInt32 &&& 65535 = ((x >>> s2) &&& 65535).toInt32 := by
  have e1 : (x.toUInt64 >>> s1).toInt64.toBitVec = x.toBitVec >>> n := by
    rw [← h1]
    exact UInt64.toBitVec_shiftRight _ _
  have e2 : (x >>> s2).toBitVec = x.toBitVec.sshiftRight n := by
    rw [← h2]
    rfl
  apply Int32.toBitVec_inj.mp
  rw [Int32.toBitVec_and, Int64.toBitVec_toInt32, Int64.toBitVec_toInt32, Int64.toBitVec_and, e1, e2]
  apply BitVec.eq_of_getLsbD_eq
  intro i hi
  have m32 : ∀ j : Fin 32, ((65535 : Int32).toBitVec).getLsbD j.val = decide (j.val < 16) := by decide
  have m64 : ∀ j : Fin 32, ((65535 : Int64).toBitVec).getLsbD j.val = decide (j.val < 16) := by decide
  have a : ((65535 : Int32).toBitVec).getLsbD i = decide (i < 16) := m32 ⟨i, hi⟩
  have b : ((65535 : Int64).toBitVec).getLsbD i = decide (i < 16) := m64 ⟨i, hi⟩
  rw [BitVec.getLsbD_and, a, BitVec.getLsbD_signExtend, BitVec.getLsbD_signExtend, BitVec.getLsbD_and, b, BitVec.getLsbD_ushiftRight, BitVec.getLsbD_sshiftRight]
  by_cases h : i < 16
  · simp [h, hi, show i < 64 by omega, show n + i < 64 by omega, show ¬ 64 ≤ i by omega]
  · simp [h, hi, show i < 64 by omega]
theorem eq_fill {σ τ : St} (hR : RR σ τ) (hJ : JJ σ) (a : Int32) (x : Int64) : PP (k_fill σ a x) (m_fill τ a x) := by
  unfold k_fill m_fill
  by_cases h1 : a < 0
  · rw [if_pos h1, if_pos h1]
    exact ⟨rfl, hR, hJ⟩
  rw [if_neg h1, if_neg h1]
  by_cases h2 : a ≤ 252
  · rw [if_pos h2, if_pos h2]
    have f0 : (((x.toUInt64 >>> (((16 * 0) : Int32).toInt64.toUInt64 &&& Int64.toUInt64 63)).toInt64 : Int64).toInt32 &&& 65535) = (((x >>> (((16 * 0) : Int32).toInt64 &&& 63)) &&& 65535) : Int64).toInt32 := fv x 0 (by decide) _ (by decide) _ (by decide)
    have f1 : (((x.toUInt64 >>> (((16 * 1) : Int32).toInt64.toUInt64 &&& Int64.toUInt64 63)).toInt64 : Int64).toInt32 &&& 65535) = (((x >>> (((16 * 1) : Int32).toInt64 &&& 63)) &&& 65535) : Int64).toInt32 := fv x 16 (by decide) _ (by decide) _ (by decide)
    have f2 : (((x.toUInt64 >>> (((16 * 2) : Int32).toInt64.toUInt64 &&& Int64.toUInt64 63)).toInt64 : Int64).toInt32 &&& 65535) = (((x >>> (((16 * 2) : Int32).toInt64 &&& 63)) &&& 65535) : Int64).toInt32 := fv x 32 (by decide) _ (by decide) _ (by decide)
    have f3 : (((x.toUInt64 >>> (((16 * 3) : Int32).toInt64.toUInt64 &&& Int64.toUInt64 63)).toInt64 : Int64).toInt32 &&& 65535) = (((x >>> (((16 * 3) : Int32).toInt64 &&& 63)) &&& 65535) : Int64).toInt32 := fv x 48 (by decide) _ (by decide) _ (by decide)
    have ek : k_fill_16_0 σ a x = (up2 (up2 (up2 (up2 σ 1 (ix (a + 0)) (((x.toUInt64 >>> (((16 * 0) : Int32).toInt64.toUInt64 &&& Int64.toUInt64 63)).toInt64 : Int64).toInt32 &&& 65535)) 1 (ix (a + 1)) (((x.toUInt64 >>> (((16 * 1) : Int32).toInt64.toUInt64 &&& Int64.toUInt64 63)).toInt64 : Int64).toInt32 &&& 65535)) 1 (ix (a + 2)) (((x.toUInt64 >>> (((16 * 2) : Int32).toInt64.toUInt64 &&& Int64.toUInt64 63)).toInt64 : Int64).toInt32 &&& 65535)) 1 (ix (a + 3)) (((x.toUInt64 >>> (((16 * 3) : Int32).toInt64.toUInt64 &&& Int64.toUInt64 63)).toInt64 : Int64).toInt32 &&& 65535), 1) := rfl
    have em : m_fill_16_0 τ a x = (up2 (up2 (up2 (up2 τ 1 (ix (a + 0)) ((((x >>> (((16 * 0) : Int32).toInt64 &&& 63)) &&& 65535) : Int64).toInt32)) 1 (ix (a + 1)) ((((x >>> (((16 * 1) : Int32).toInt64 &&& 63)) &&& 65535) : Int64).toInt32)) 1 (ix (a + 2)) ((((x >>> (((16 * 2) : Int32).toInt64 &&& 63)) &&& 65535) : Int64).toInt32)) 1 (ix (a + 3)) ((((x >>> (((16 * 3) : Int32).toInt64 &&& 63)) &&& 65535) : Int64).toInt32), 1) := rfl
    rw [ek, em, ← f0, ← f1, ← f2, ← f3]
    exact ⟨rfl, RR_up (RR_up (RR_up (RR_up hR vK_1 (by decide)) vK_1 (by decide)) vK_1 (by decide)) vK_1 (by decide), JJ_1 (JJ_1 (JJ_1 (JJ_1 hJ (wd_and _)) (wd_and _)) (wd_and _)) (wd_and _)⟩
  · rw [if_neg h2, if_neg h2]
    exact ⟨rfl, hR, hJ⟩
