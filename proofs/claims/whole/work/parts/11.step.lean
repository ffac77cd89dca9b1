-- a fault's answer
theorem f69 (σ : St) : m_fault_69 σ = σ := rfl
theorem af67 (σ : St) : k_answerFault_67 σ = σ := rfl
theorem i145 (σ : St) : m_instruction_145 σ = σ := rfl
theorem s106 (σ : St) : k_step_106 σ = σ := rfl
theorem s90 (σ : St) : m_step_90 σ = σ := rfl
theorem mf57 (τ : St) (e : Int32) : m_fault_57 τ e = m_take τ e (τ 5 (ix 7)) := (bd_e rfl).trans (f69 _)
theorem ka62 (σ : St) (e : Int32) : k_answerFault_62 σ e = k_take σ e := (bd_e rfl).trans (af67 _)
theorem ka54 (σ : St) : k_answerFault_54 σ = up2 σ 0 11 2 := rfl
theorem fault_eq {f : Int32} {σ τ : St} (hf : f = 1 ∨ f = 2) (hD : DD f σ τ) (hJ : JJ σ) : m_fault τ = vK (k_answerFault σ) ∧ JJ (k_answerFault σ) := by
  have t14 : τ 0 14 = f := DD_f hD
  have t4 : τ 0 4 = σ 0 7 := by
    rw [hD.2.1]
    rfl
  obtain ⟨e, he, hm, hk⟩ : ∃ e : Int32, (e = 1 ∨ e = 2) ∧ m_fault τ = m_fault_23 τ e ∧ k_answerFault σ = k_answerFault_26 (k_copy_67 σ) e := by
    unfold m_fault m_fault_19 k_answerFault
    simp only [bd]
    rw [t14, t4, show (k_copy_67 σ) 0 7 = σ 0 7 from rfl, show (k_copy_67 σ) 0 14 = f from hD.1]
    by_cases h7 : σ 0 7 = 0
    · rw [if_pos h7, if_pos h7]
      refine ⟨1, Or.inl rfl, ?_, rfl⟩
      rcases hf with rfl | rfl <;> rfl
    · rw [if_neg h7, if_neg h7]
      refine ⟨f, hf, ?_, rfl⟩
      split <;> rfl
  rw [hm, hk]
  unfold m_fault_23
  simp only [bd]
  rw [back_eq hD]
  have hJ2 := JJ_bk hJ
  clear hm hk t14 t4 hD hJ
  generalize k_copy_67 σ = σ1 at *
  rw [show vK σ1 0 10 = σ1 6 6 from rfl]
  have hl : m_fault_49 (vK σ1) = vK (up2 σ1 0 11 2) ∧ JJ (up2 σ1 0 11 2) := ⟨by rw [vK_0_11]; rfl, JJ_0 hJ2⟩
  have ht : m_fault_57 (vK σ1) e = vK (k_take σ1 e) ∧ JJ (k_take σ1 e) := by
    rw [mf57]
    exact take_eq (RR_of σ1) hJ2 (by rcases he with rfl | rfl <;> decide)
  unfold k_answerFault_26
  rw [ka62, ka54]
  by_cases h1 : σ1 6 6 = 1
  · rw [if_pos h1, if_pos h1]
    exact hl
  · rw [if_neg h1, if_neg h1]
    by_cases h2 : σ1 6 6 = 2
    · rw [if_pos h2, if_pos h2]
      rcases he with rfl | rfl
      · exact ht
      · exact hl
    · rw [if_neg h2, if_neg h2]
      exact ht
theorem tail_eq {σ τ : St} (h : FM σ τ) (hJ : JJ σ) : m_instruction_134 τ = vK (k_step_95 σ) ∧ JJ (k_step_95 σ) := by
  unfold m_instruction_134 k_step_95
  rcases h with ⟨h1, rfl⟩ | ⟨f, hf, hD⟩
  · rw [if_pos h1, if_pos (show vK σ 0 14 = 0 from h1), i145, s106]
    exact ⟨rfl, hJ⟩
  · have hn : ¬ f = 0 := by rcases hf with rfl | rfl <;> decide
    rw [if_neg (show ¬ σ 0 14 = 0 by rw [hD.1]; exact hn), if_neg (show ¬ τ 0 14 = 0 by rw [DD_f hD]; exact hn), bd_e (y := m_fault τ) rfl, bd_e (y := k_answerFault σ) rfl, i145, s106]
    exact fault_eq hf hD hJ
-- the class's instruction
def kI (σ : St) : St :=
  bd (k_copy_76 σ) fun σ3 =>
  bd (up2 σ3 0 14 0) fun σ4 =>
  bd2 (k_fetch σ4) fun σ5 v6 =>
  if (σ5 0 14) = 0 then
    bd2 (k_isUnknown σ5 v6) fun σ15 v16 =>
    if v16 = 0 then
      k_step_53 σ15 v6
    else
      bd (up2 σ15 0 14 1) fun σ18 =>
      k_step_53 σ18 v6
  else
    k_step_53 σ5 v6
theorem iu1 (σ : St) (w : Int32) : (k_isUnknown σ w).1 = σ := by
  unfold k_isUnknown k_isUnknown_36 k_isUnknown_38 k_isUnknown_62 k_isUnknown_80 k_isUnknown_97 k_isUnknown_101 k_isUnknown_102
  repeat' (first | rfl | split)
theorem s53_0 {σ : St} {w : Int32} (hf : σ 0 14 = 0) : k_step_53 σ w = k_step_95 (kQ σ w) := by
  unfold k_step_53
  rw [if_pos hf]
  exact ite_F k_step_95 (k_changeFlow (k_goTo σ ((σ 6 3) + 1)) w) (k_moveData (k_goTo σ ((σ 6 3) + 1)) w)
theorem s53_n {σ : St} {w : Int32} (hf : ¬ σ 0 14 = 0) : k_step_53 σ w = k_step_95 σ := by
  unfold k_step_53
  rw [if_neg hf]
theorem kI_p {σ : St} {w : Int32} (hf : σ 0 14 = 0) : (bd2 (k_isUnknown σ w) fun σ15 v16 => if v16 = 0 then k_step_53 σ15 w else bd (up2 σ15 0 14 1) fun σ18 => k_step_53 σ18 w) = k_step_95 (kP σ w) := by
  unfold kP
  simp only [bd2, bd]
  rw [iu1]
  by_cases h : (k_isUnknown σ w).2 = 0
  · rw [if_pos h, if_pos h, s53_0 hf]
  · rw [if_neg h, if_neg h, s53_n (show ¬ (1 : Int32) = 0 by decide)]
theorem m54 (τ : St) (w k : Int32) : m_instruction_54 τ w k = m_instruction_55 τ w k 0 := rfl
theorem inst {σ τ : St} (hR : RR σ τ) (hJ : JJ σ) : m_instruction τ = vK (kI σ) ∧ JJ (kI σ) := by
  have hT : m_instruction τ = m_instruction τ := rfl
  have hT := hT.trans (bd_e (keep_eq hR).symm)
  have hE : kI σ = kI σ := rfl
  have hE := hE.trans (bd_e rfl)
  have J4 : JJ (up2 (k_copy_76 σ) 0 14 0) := JJ_0 (JJ_cp hJ)
  have A4 : AE (up2 (k_copy_76 σ) 0 14 0) := rfl
  have F4 : (up2 (k_copy_76 σ) 0 14 0) 0 14 = 0 := rfl
  obtain ⟨σ4, s4⟩ : ∃ z, z = up2 (k_copy_76 σ) 0 14 0 := ⟨_, rfl⟩
  have hE := hE.trans (bd_e s4)
  rw [← s4] at hT J4 A4 F4
  have hT := hT.trans (bd2_e (kat J4.1 (σ4 6 3)).symm)
  have hT := hT.trans (bd2_e (iow (JJ_zo J4)).symm)
  have hw : vK σ4 1 (ix (vK σ4 5 (ix 7))) = σ4 1 (ix ((σ4 6 3) &&& 255)) := by
    show σ4 1 (ix (σ4 6 3)) = _
    rw [b8_id (JJ_pc J4)]
  rw [hw] at hT
  have hF : k_fetch σ4 = if (σ4 6 5) = 0 then (if (σ4 2 (ix ((σ4 6 3) &&& 255))) = 1 then (bd (up2 σ4 0 14 2) fun σ10 => k_fetch_107 σ10 (σ4 1 (ix ((σ4 6 3) &&& 255)))) else k_fetch_107 σ4 (σ4 1 (ix ((σ4 6 3) &&& 255)))) else (if (σ4 2 (ix ((σ4 6 3) &&& 255))) = 2 then (if ((σ4 1 (ix ((σ4 6 3) &&& 255))) >>> ((12 : Int32) &&& 31)) = 10 then (bd (up2 σ4 6 5 0) fun σ7 => bd (up2 σ7 8 (ix 6) ((σ7 8 (ix 6)) ||| 32768)) fun σ8 => k_fetch_107 σ8 (σ4 1 (ix ((σ4 6 3) &&& 255)))) else k_fetch_97 σ4 (σ4 1 (ix ((σ4 6 3) &&& 255))) (σ4 2 (ix ((σ4 6 3) &&& 255)))) else k_fetch_97 σ4 (σ4 1 (ix ((σ4 6 3) &&& 255))) (σ4 2 (ix ((σ4 6 3) &&& 255)))) := rfl
  have ww : wd (σ4 1 (ix ((σ4 6 3) &&& 255))) := JJ_w J4 _
  generalize σ4 1 (ix ((σ4 6 3) &&& 255)) = w at *
  generalize σ4 2 (ix ((σ4 6 3) &&& 255)) = kn at *
  have fin_f : kI σ = k_step_95 (up2 σ4 0 14 2) → m_instruction τ = m_instruction_134 (m_speak (vK σ4) 2) → m_instruction τ = vK (kI σ) ∧ JJ (kI σ) := fun a b => by
    rw [a, b]
    exact tail_eq (fm_M (mm_f (mm_e A4 F4))) (JJ_0 J4)
  have fin_p : ∀ {σ5 : St}, JJ σ5 → AE σ5 → σ5 0 14 = 0 → kI σ = k_step_95 (kP σ5 w) → m_instruction τ = m_instruction_134 (m_perform (vK σ5) w) → m_instruction τ = vK (kI σ) ∧ JJ (kI σ) := fun J5 A5 F5 a b => by
    rw [a, b]
    obtain ⟨c, d⟩ := perf J5 A5 F5 ww
    exact tail_eq c d
  have kf : ∀ {σ5 : St}, k_fetch σ4 = (σ5, w) → σ5 0 14 = 0 → kI σ = k_step_95 (kP σ5 w) := fun a b => by
    have hE := hE.trans (bd2_e a.symm)
    have hE := hE.trans (if_pos b)
    exact hE.trans (kI_p b)
  have kb : k_fetch σ4 = (up2 σ4 0 14 2, w) → kI σ = k_step_95 (up2 σ4 0 14 2) := fun a => by
    have hE := hE.trans (bd2_e a.symm)
    have hE := hE.trans (if_neg (show ¬ (2 : Int32) = 0 by decide))
    exact hE.trans (s53_n (show ¬ (2 : Int32) = 0 by decide))
  by_cases h0 : σ4 6 5 = 0
  · have hT := hT.trans (if_pos h0)
    have hT := hT.trans (m54 _ _ _)
    have hT := hT.trans (bd2_e (iow (JJ_zo J4)).symm)
    have hT := hT.trans (if_pos h0)
    have hF := hF.trans (if_pos h0)
    by_cases h1 : kn = 1
    · have hT := hT.trans (if_pos h1)
      have hF := hF.trans (if_pos h1)
      exact fin_f (kb hF) hT
    · have hT := hT.trans (if_neg h1)
      have hF := hF.trans (if_neg h1)
      exact fin_p J4 A4 F4 (kf hF F4) hT
  · have hT := hT.trans (if_neg h0)
    have hF := hF.trans (if_neg h0)
    by_cases h2 : kn = 2
    · have hT := hT.trans (if_pos h2)
      have hF := hF.trans (if_pos h2)
      have n1 : ¬ kn = 1 := by rw [h2]; decide
      by_cases h3 : (w >>> ((12 : Int32) &&& 31)) = 10
      · have hT := hT.trans (if_pos h3)
        have hF := hF.trans (if_pos h3)
        have hT := hT.trans (bd2_e (iow (JJ_zo J4)).symm)
        have hT := hT.trans (if_neg h0)
        have hT := hT.trans (if_neg n1)
        have hF : k_fetch σ4 = (up2 (up2 σ4 6 5 0) 8 (ix 6) ((σ4 8 (ix 6)) ||| 32768), w) := hF
        have hT : m_instruction τ = m_instruction_134 (m_perform (up2 (up2 (vK σ4) 5 11 0) 5 (ix 6) ((σ4 8 (ix 6)) ||| 32768)) w) := hT
        rw [← vK_6_5, ← vK_8 (show ix 6 < 7 by decide)] at hT
        exact fin_p (JJ_8 (JJ_6_5 J4 (by decide)) (wd_or (JJ_r J4 _))) A4 F4 (kf hF F4) hT
      · have hT := hT.trans (if_neg h3)
        have hF := hF.trans (if_neg h3)
        have hT := hT.trans (m54 _ _ _)
        have hT := hT.trans (bd2_e (iow (JJ_zo J4)).symm)
        have hT := hT.trans (if_neg h0)
        have hT := hT.trans (if_neg n1)
        have hF := hF.trans (if_neg n1)
        exact fin_f (kb hF) hT
    · have hT := hT.trans (if_neg h2)
      have hF := hF.trans (if_neg h2)
      have hT := hT.trans (m54 _ _ _)
      have hT := hT.trans (bd2_e (iow (JJ_zo J4)).symm)
      have hT := hT.trans (if_neg h0)
      by_cases h1 : kn = 1
      · have hT := hT.trans (if_pos h1)
        have hF := hF.trans (if_pos h1)
        exact fin_p J4 A4 F4 (kf hF F4) hT
      · have hT := hT.trans (if_neg h1)
        have hF := hF.trans (if_neg h1)
        exact fin_f (kb hF) hT
theorem k_step_split (σ : St) : k_step σ = if (k_takePending σ) 0 11 = 0 then kI (k_takePending σ) else k_takePending σ := rfl
theorem step_at {σ τ : St} (hR : RR σ τ) (hJ : JJ σ) : RR (if σ 0 11 = 0 then kI σ else σ) (m_step_79 τ) ∧ JJ (if σ 0 11 = 0 then kI σ else σ) := by
  have e11 : τ 0 11 = σ 0 11 := by
    rw [hR.1 0 (by decide)]
    rfl
  unfold m_step_79
  rw [e11]
  by_cases h : σ 0 11 = 0
  · rw [if_pos h, if_pos h]
    obtain ⟨a, b⟩ := inst hR hJ
    rw [bd_e (y := m_instruction τ) rfl, s90, a]
    exact ⟨RR_of _, b⟩
  · rw [if_neg h, if_neg h, s90]
    exact ⟨hR, hJ⟩
theorem step_eq {σ τ : St} (hR : RR σ τ) (hJ : JJ σ) : RR (k_step σ) (m_step τ) ∧ JJ (k_step σ) := by
  have h12 : τ 0 12 = σ 0 12 := by
    rw [hR.1 0 (by decide)]
    rfl
  have h10 : τ 0 10 = σ 6 6 := by
    rw [hR.1 0 (by decide)]
    rfl
  rw [k_step_split]
  rcases pend_eq h12 h10 hJ with ⟨a, b⟩ | ⟨e, he, a, b⟩
  · rw [a, b]
    exact step_at hR hJ
  · rw [a, b]
    obtain ⟨c, d⟩ := take_eq (e := e) (RR_up hR (vK_0_12 (v := (σ 0 12) &&& (((1 : Int32) <<< (e &&& 31)) ^^^ (-1)))) (by decide)) (JJ_0 hJ) he
    rw [c]
    exact step_at (RR_of _) d
