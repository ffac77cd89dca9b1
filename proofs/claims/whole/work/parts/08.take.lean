-- at rest: all cells agree but what was kept
def RR (σ τ : St) : Prop := (∀ c, c ≠ 6 → τ c = vK σ c) ∧ ∀ k, 12 ≤ k → τ 6 k = 0
theorem RR_of (σ : St) : RR σ (vK σ) := ⟨fun _ _ => rfl, fun _ hk => rg_12 hk⟩
theorem RR_up {σ τ : St} {c k c' k' : Nat} {v : Int32} (h : RR σ τ) (e : vK (up2 σ c k v) = up2 (vK σ) c' k' v) (hc : c' ≠ 6) : RR (up2 σ c k v) (up2 τ c' k' v) := by
  refine ⟨fun d hd => ?_, fun j hj => ?_⟩
  · rw [e]
    by_cases h1 : d = c'
    · subst h1
      show (if d = d then upd (τ d) k' v else τ d) = if d = d then upd (vK σ d) k' v else vK σ d
      rw [h.1 d hd]
    · rw [up2_c h1, up2_c h1]
      exact h.1 d hd
  · rw [up2_c (Ne.symm hc)]
    exact h.2 j hj
theorem keep6 (τ : St) : m_keep τ 6 = fun k => if k < 12 then τ 5 k else τ 6 k := by
  funext k
  match k with
  | 0 => rfl
  | 1 => rfl
  | 2 => rfl
  | 3 => rfl
  | 4 => rfl
  | 5 => rfl
  | 6 => rfl
  | 7 => rfl
  | 8 => rfl
  | 9 => rfl
  | 10 => rfl
  | 11 => rfl
  | k + 12 =>
    simp [m_keep, m_keep_2_0, m_keep_2_1, m_keep_2_2, m_keep_2_3, m_keep_2_4, m_keep_2_5, m_keep_2_6, m_keep_2_7, m_keep_2_8, m_keep_2_9, m_keep_2_10, m_keep_2_11, m_keep_2_12, bd, up2, upd, ix_0, ix_1, ix_2, ix_3, ix_4, ix_5, ix_6, ix_7, ix_8, ix_9, ix_10, ix_11]
    intro h
    exact absurd h (by omega)
theorem back5 (τ : St) : m_takeBack τ 5 = fun k => if k < 12 then τ 6 k else τ 5 k := by
  funext k
  match k with
  | 0 => rfl
  | 1 => rfl
  | 2 => rfl
  | 3 => rfl
  | 4 => rfl
  | 5 => rfl
  | 6 => rfl
  | 7 => rfl
  | 8 => rfl
  | 9 => rfl
  | 10 => rfl
  | 11 => rfl
  | k + 12 =>
    simp [m_takeBack, m_takeBack_2_0, m_takeBack_2_1, m_takeBack_2_2, m_takeBack_2_3, m_takeBack_2_4, m_takeBack_2_5, m_takeBack_2_6, m_takeBack_2_7, m_takeBack_2_8, m_takeBack_2_9, m_takeBack_2_10, m_takeBack_2_11, m_takeBack_2_12, bd, up2, upd, ix_0, ix_1, ix_2, ix_3, ix_4, ix_5, ix_6, ix_7, ix_8, ix_9, ix_10, ix_11]
    intro h
    exact absurd h (by omega)
theorem rg_cp (σ : St) : rg (k_copy_76 σ 7) (k_copy_76 σ 9) = rg (σ 6) (σ 8) := by
  funext k
  by_cases h : k < 7
  · unfold rg
    rw [if_pos h, if_pos h]
    show va_cpy (σ 8) (σ 9) 0 0 8 k = σ 8 k
    unfold va_cpy
    rw [if_pos ⟨Nat.zero_le _, by omega⟩]
    simp
  · unfold rg
    rw [if_neg h, if_neg h]
    rfl
theorem rg_bk (σ : St) : rg (k_copy_67 σ 6) (k_copy_67 σ 8) = rg (σ 7) (σ 9) := by
  funext k
  by_cases h : k < 7
  · unfold rg
    rw [if_pos h, if_pos h]
    show va_cpy (σ 9) (σ 8) 0 0 8 k = σ 9 k
    unfold va_cpy
    rw [if_pos ⟨Nat.zero_le _, by omega⟩]
    simp
  · unfold rg
    rw [if_neg h, if_neg h]
    rfl
theorem keep_eq {σ τ : St} (h : RR σ τ) : m_keep τ = vK (up2 (k_copy_76 σ) 0 14 0) := by
  refine st_ext ?_ (h.1 1 (by decide)) (h.1 2 (by decide)) (h.1 3 (by decide)) (h.1 4 (by decide)) (h.1 5 (by decide)) ?_ (fun c => h.1 (c + 7) (by omega))
  · show upd (τ 0) 14 0 = v0 (up2 (k_copy_76 σ) 0 14 0) (σ 6 6)
    rw [v0_14, h.1 0 (by decide)]
    rfl
  · rw [keep6]
    show _ = rg (k_copy_76 σ 7) (k_copy_76 σ 9)
    rw [rg_cp]
    funext k
    by_cases hk : k < 12
    · show (if k < 12 then τ 5 k else τ 6 k) = _
      rw [if_pos hk, h.1 5 (by decide)]
      rfl
    · show (if k < 12 then τ 5 k else τ 6 k) = _
      rw [if_neg hk, h.2 k (by omega), rg_12 (by omega)]
theorem back_eq {f : Int32} {σ τ : St} (h : DD f σ τ) : m_takeBack τ = vK (k_copy_67 σ) := by
  obtain ⟨h1, h2, h3, h4, h5, h6, h7, h8, h9⟩ := h
  refine st_ext h2 h3 h4 h5 h6 ?_ h7 h9
  rw [back5]
  show _ = rg (k_copy_67 σ 6) (k_copy_67 σ 8)
  rw [rg_bk]
  funext k
  by_cases hk : k < 12
  · show (if k < 12 then τ 6 k else τ 5 k) = _
    rw [if_pos hk, h7]
  · show (if k < 12 then τ 6 k else τ 5 k) = _
    rw [if_neg hk, h8 k (by omega), rg_12 (by omega)]
-- a frame
def mfr (τ : St) (b : Int32) : St :=
  bd (m_push τ b) fun σ2 =>
  bd (m_push σ2 (σ2 5 (ix 10))) fun σ3 =>
  bd (m_push σ3 (σ3 5 (ix 6))) fun σ4 =>
  bd (m_push σ4 (σ4 5 (ix 0))) fun σ5 =>
  bd (m_push σ5 (σ5 5 (ix 1))) fun σ6 =>
  bd (m_push σ6 (σ6 5 (ix 2))) fun σ7 =>
  bd (m_push σ7 (σ7 5 (ix 3))) fun σ8 =>
  bd (m_push σ8 (σ8 5 (ix 4))) fun σ9 =>
  bd (m_push σ9 (σ9 5 (ix 5))) fun σ10 =>
  m_push σ10 (1000 + (σ10 0 10))
def mrest (τ : St) (x1 : Int32) : St :=
  if (τ 0 14) = 0 then
    bd2 (m_isOpenWorld τ) fun σ20 v21 =>
    if v21 = 0 then
      m_take_96 σ20 x1 1
    else
      m_take_96 σ20 x1 0
  else
    bd (m_takeBack τ) fun σ61 =>
    bd (up2 σ61 0 11 2) fun σ62 =>
    σ62

theorem m_take_split (τ : St) (e b : Int32) : m_take τ e b = mrest (mfr (m_keep τ) b) e := by
  have hE : m_take τ e b = m_take τ e b := rfl
  obtain ⟨τ0, t0⟩ : ∃ z, z = m_keep τ := ⟨_, rfl⟩
  have hE := hE.trans (bd_e t0)
  rw [← t0]
  have hM : mfr τ0 b = mfr τ0 b := rfl
  obtain ⟨τ1, t1⟩ : ∃ z, z = m_push τ0 (b) := ⟨_, rfl⟩
  have hM := hM.trans (bd_e t1)
  have hE := hE.trans (bd_e t1)
  obtain ⟨τ2, t2⟩ : ∃ z, z = m_push τ1 (τ1 5 (ix 10)) := ⟨_, rfl⟩
  have hM := hM.trans (bd_e t2)
  have hE := hE.trans (bd_e t2)
  obtain ⟨τ3, t3⟩ : ∃ z, z = m_push τ2 (τ2 5 (ix 6)) := ⟨_, rfl⟩
  have hM := hM.trans (bd_e t3)
  have hE := hE.trans (bd_e t3)
  obtain ⟨τ4, t4⟩ : ∃ z, z = m_push τ3 (τ3 5 (ix 0)) := ⟨_, rfl⟩
  have hM := hM.trans (bd_e t4)
  have hE := hE.trans (bd_e t4)
  obtain ⟨τ5, t5⟩ : ∃ z, z = m_push τ4 (τ4 5 (ix 1)) := ⟨_, rfl⟩
  have hM := hM.trans (bd_e t5)
  have hE := hE.trans (bd_e t5)
  obtain ⟨τ6, t6⟩ : ∃ z, z = m_push τ5 (τ5 5 (ix 2)) := ⟨_, rfl⟩
  have hM := hM.trans (bd_e t6)
  have hE := hE.trans (bd_e t6)
  obtain ⟨τ7, t7⟩ : ∃ z, z = m_push τ6 (τ6 5 (ix 3)) := ⟨_, rfl⟩
  have hM := hM.trans (bd_e t7)
  have hE := hE.trans (bd_e t7)
  obtain ⟨τ8, t8⟩ : ∃ z, z = m_push τ7 (τ7 5 (ix 4)) := ⟨_, rfl⟩
  have hM := hM.trans (bd_e t8)
  have hE := hE.trans (bd_e t8)
  obtain ⟨τ9, t9⟩ : ∃ z, z = m_push τ8 (τ8 5 (ix 5)) := ⟨_, rfl⟩
  have hM := hM.trans (bd_e t9)
  have hE := hE.trans (bd_e t9)
  obtain ⟨τ10, t10⟩ : ∃ z, z = m_push τ9 (1000 + τ9 0 10) := ⟨_, rfl⟩
  have hE := hE.trans (bd_e t10)
  have hM := hM.trans t10.symm
  rw [hM]
  exact hE
theorem frame_eq {σ : St} (h : XX σ) : mfr (vK σ) (σ 6 3) = vK (k_pushFrame σ) ∧ XX (k_pushFrame σ) := by
  have hM : mfr (vK σ) (σ 6 3) = mfr (vK σ) (σ 6 3) := rfl
  have hE : k_pushFrame σ = k_pushFrame σ := rfl
  obtain ⟨σ1, s1⟩ : ∃ z, z = k_push σ (σ 6 3) := ⟨_, rfl⟩
  obtain ⟨e1, x1⟩ := push_eq h (v := σ 6 3) (b8_wd (JJ_pc h.1))
  rw [← s1] at e1 x1
  have hM := hM.trans (bd_e e1.symm)
  have hE := hE.trans (bd_e s1)
  have hz : (if (σ1 6 4) = 0 then k_pushFrame_27 σ1 0 else k_pushFrame_27 σ1 1) = k_pushFrame_27 σ1 (σ1 6 4) := by
    rcases JJ_zz x1.1 with z | z <;> rw [z] <;> rfl
  have hE := hE.trans hz
  obtain ⟨σ2, s2⟩ : ∃ z, z = k_push σ1 (σ1 6 4) := ⟨_, rfl⟩
  obtain ⟨e2, x2⟩ := push_eq x1 (v := σ1 6 4) (zb_wd (JJ_zz x1.1))
  rw [← s2] at e2 x2
  have hM := hM.trans (bd_e e2.symm)
  have hE := hE.trans (bd_e s2)
  obtain ⟨σ3, s3⟩ : ∃ z, z = k_push σ2 (σ2 8 (ix 6)) := ⟨_, rfl⟩
  obtain ⟨e3, x3⟩ := push_eq x2 (v := σ2 8 (ix 6)) (JJ_r x2.1 _)
  rw [← s3] at e3 x3
  have hM := hM.trans (bd_e e3.symm)
  have hE := hE.trans (bd_e s3)
  obtain ⟨σ4, s4⟩ : ∃ z, z = k_push σ3 (σ3 8 (ix 0)) := ⟨_, rfl⟩
  obtain ⟨e4, x4⟩ := push_eq x3 (v := σ3 8 (ix 0)) (JJ_r x3.1 _)
  rw [← s4] at e4 x4
  have hM := hM.trans (bd_e e4.symm)
  have hE := hE.trans (bd_e s4)
  obtain ⟨σ5, s5⟩ : ∃ z, z = k_push σ4 (σ4 8 (ix 1)) := ⟨_, rfl⟩
  obtain ⟨e5, x5⟩ := push_eq x4 (v := σ4 8 (ix 1)) (JJ_r x4.1 _)
  rw [← s5] at e5 x5
  have hM := hM.trans (bd_e e5.symm)
  have hE := hE.trans (bd_e s5)
  obtain ⟨σ6, s6⟩ : ∃ z, z = k_push σ5 (σ5 8 (ix 2)) := ⟨_, rfl⟩
  obtain ⟨e6, x6⟩ := push_eq x5 (v := σ5 8 (ix 2)) (JJ_r x5.1 _)
  rw [← s6] at e6 x6
  have hM := hM.trans (bd_e e6.symm)
  have hE := hE.trans (bd_e s6)
  obtain ⟨σ7, s7⟩ : ∃ z, z = k_push σ6 (σ6 8 (ix 3)) := ⟨_, rfl⟩
  obtain ⟨e7, x7⟩ := push_eq x6 (v := σ6 8 (ix 3)) (JJ_r x6.1 _)
  rw [← s7] at e7 x7
  have hM := hM.trans (bd_e e7.symm)
  have hE := hE.trans (bd_e s7)
  obtain ⟨σ8, s8⟩ : ∃ z, z = k_push σ7 (σ7 8 (ix 4)) := ⟨_, rfl⟩
  obtain ⟨e8, x8⟩ := push_eq x7 (v := σ7 8 (ix 4)) (JJ_r x7.1 _)
  rw [← s8] at e8 x8
  have hM := hM.trans (bd_e e8.symm)
  have hE := hE.trans (bd_e s8)
  obtain ⟨σ9, s9⟩ : ∃ z, z = k_push σ8 (σ8 8 (ix 5)) := ⟨_, rfl⟩
  obtain ⟨e9, x9⟩ := push_eq x8 (v := σ8 8 (ix 5)) (JJ_r x8.1 _)
  rw [← s9] at e9 x9
  have hM := hM.trans (bd_e e9.symm)
  have hE := hE.trans (bd_e s9)
  obtain ⟨σ10, s10⟩ : ∃ z, z = k_push σ9 (1000 + σ9 6 6) := ⟨_, rfl⟩
  obtain ⟨e10, x10⟩ := push_eq x9 (v := 1000 + σ9 6 6) (wd_1000 (JJ_ac x9.1))
  rw [← s10] at e10 x10
  have hM := hM.trans e10
  have hE := hE.trans (bd_e s10)
  have hE : k_pushFrame σ = σ10 := hE
  rw [hE, hM]
  exact ⟨rfl, x10⟩
theorem iho (σ : St) (e : Int32) : (k_isHandledOpen σ e = (σ, 0) ∧ m_isClosedOne (vK σ) e = (vK σ, 1)) ∨ (k_isHandledOpen σ e = (σ, 1) ∧ m_isClosedOne (vK σ) e = (vK σ, 0)) := by
  unfold k_isHandledOpen m_isClosedOne k_isHandledOpen_22 k_isHandledOpen_23 m_isClosedOne_19 m_isClosedOne_24
  rw [show vK σ 0 5 = σ 0 8 from rfl]
  by_cases h3 : e < 3
  · rw [if_pos h3, if_pos h3]
    exact Or.inl ⟨rfl, rfl⟩
  · rw [if_neg h3, if_neg h3]
    rcases bit_01 ((σ 0 8) >>> ((e - 3) &&& 31)) with h | h
    · rw [h]
      exact Or.inr ⟨rfl, rfl⟩
    · rw [h]
      exact Or.inl ⟨rfl, rfl⟩

theorem k_enter_00 {σ : St} {e : Int32} (h : σ 6 5 = 0) (hi : k_isHandledOpen σ e = (σ, 0)) : k_enter σ e = up2 (up2 (up2 (up2 (up2 σ 8 (ix 6) (65408 + (16 * (σ 6 6)) + 1)) 6 5 0) 6 6 e) 6 3 ((σ 1 (ix (((8 * (σ 0 9)) + e) &&& 255))) &&& 255)) 0 13 e := by
  unfold k_enter
  simp only [bd2, hi]
  rw [if_pos h]
  unfold k_enter_43_6
  simp only [bd]
  rw [if_pos (show up2 σ 8 (ix 6) (65408 + (16 * (σ 6 6)) + 1) 6 5 = 0 from h)]
  first | rw [if_pos trivial] | rw [if_pos rfl]
  unfold k_enter_66
  simp only [bd]
  first | rw [if_pos trivial] | rw [if_pos rfl]
  rfl
theorem m_enter_00 {σ : St} {e : Int32} (h : σ 6 5 = 0) (hz : zb (σ 6 5)) (hf : σ 0 14 = 0) (hi : m_isClosedOne (vK σ) e = (vK σ, 1)) : mrest (vK σ) e = up2 (up2 (up2 (up2 (up2 (vK σ) 5 (ix 6) (65408 + (16 * (σ 6 6)) + 1)) 5 (ix 11) 0) 5 (ix 7) ((σ 1 (ix (((8 * (σ 0 9)) + e) &&& 255))) &&& 255)) 0 10 e) 0 13 e := by
  unfold mrest
  rw [if_pos (show vK σ 0 14 = 0 from hf)]
  simp only [bd2, iow hz]
  rw [if_pos h]
  unfold m_take_96
  simp only [bd2, hi]
  rw [if_neg (by decide)]
  rfl
theorem enter_00 {σ : St} {e : Int32} (hJ : JJ σ) (he : ac e) (h : σ 6 5 = 0) (hf : σ 0 14 = 0) (hi : k_isHandledOpen σ e = (σ, 0)) (hi' : m_isClosedOne (vK σ) e = (vK σ, 1)) : mrest (vK σ) e = vK (k_enter σ e) ∧ JJ (k_enter σ e) := by
  rw [k_enter_00 h hi, m_enter_00 h (JJ_zo hJ) hf hi']
  refine ⟨?_, JJ_0 (JJ_6_3 (JJ_6_6 (JJ_6_5 (JJ_8 hJ (wd_link (JJ_ac hJ) (by decide))) (by decide)) he) (b8_and _))⟩
  rw [vK_0_13, vK_6_3, vK_6_6, vK_6_5, vK_8 (show ix 6 < 7 by decide)]
  rw [up2_comm (c := 0) (c' := 5) (Or.inl (by decide))]
  rfl
theorem k_enter_01 {σ : St} {e : Int32} (h : σ 6 5 = 0) (hi : k_isHandledOpen σ e = (σ, 1)) : k_enter σ e = up2 (up2 (up2 (up2 (up2 (up2 (up2 (up2 (up2 (up2 (up2 (up2 σ 8 (ix 6) (65408 + (16 * (σ 6 6)) + 1)) 8 (ix 0) 0) 8 (ix 1) 0) 8 (ix 2) 0) 8 (ix 3) 0) 8 (ix 4) 0) 8 (ix 5) 0) 6 4 0) 6 5 1) 6 6 e) 6 3 ((σ 1 (ix (((8 * (σ 0 10)) + e) &&& 255))) &&& 255)) 0 13 e := by
  unfold k_enter
  simp only [bd2, hi]
  rw [if_pos h]
  unfold k_enter_43_6
  simp only [bd]
  rw [if_pos (show up2 σ 8 (ix 6) (65408 + (16 * (σ 6 6)) + 1) 6 5 = 0 from h)]
  rw [if_neg (by decide)]
  unfold k_enter_66
  simp only [bd]
  rw [if_neg (by decide)]
  rfl
theorem m_enter_01 {σ : St} {e : Int32} (h : σ 6 5 = 0) (hz : zb (σ 6 5)) (hf : σ 0 14 = 0) (hi : m_isClosedOne (vK σ) e = (vK σ, 0)) : mrest (vK σ) e = up2 (up2 (up2 (up2 (up2 (up2 (up2 (up2 (up2 (up2 (up2 (up2 (vK σ) 5 (ix 6) (65408 + (16 * (σ 6 6)) + 1)) 5 (ix 0) 0) 5 (ix 1) 0) 5 (ix 2) 0) 5 (ix 3) 0) 5 (ix 4) 0) 5 (ix 5) 0) 5 (ix 10) 0) 5 (ix 11) 1) 5 (ix 7) ((σ 1 (ix (((8 * (σ 0 10)) + e) &&& 255))) &&& 255)) 0 10 e) 0 13 e := by
  unfold mrest
  rw [if_pos (show vK σ 0 14 = 0 from hf)]
  simp only [bd2, iow hz]
  rw [if_pos h]
  unfold m_take_96
  simp only [bd2, hi]
  rw [if_neg (by decide)]
  rfl
theorem enter_01 {σ : St} {e : Int32} (hJ : JJ σ) (he : ac e) (h : σ 6 5 = 0) (hf : σ 0 14 = 0) (hi : k_isHandledOpen σ e = (σ, 1)) (hi' : m_isClosedOne (vK σ) e = (vK σ, 0)) : mrest (vK σ) e = vK (k_enter σ e) ∧ JJ (k_enter σ e) := by
  rw [k_enter_01 h hi, m_enter_01 h (JJ_zo hJ) hf hi']
  refine ⟨?_, JJ_0 (JJ_6_3 (JJ_6_6 (JJ_6_5 (JJ_6_4 (JJ_8 (JJ_8 (JJ_8 (JJ_8 (JJ_8 (JJ_8 (JJ_8 hJ (wd_link (JJ_ac hJ) (by decide))) (by decide)) (by decide)) (by decide)) (by decide)) (by decide)) (by decide)) (by decide)) (by decide)) he) (b8_and _))⟩
  rw [vK_0_13, vK_6_3, vK_6_6, vK_6_5, vK_6_4, vK_8 (show ix 5 < 7 by decide), vK_8 (show ix 4 < 7 by decide), vK_8 (show ix 3 < 7 by decide), vK_8 (show ix 2 < 7 by decide), vK_8 (show ix 1 < 7 by decide), vK_8 (show ix 0 < 7 by decide), vK_8 (show ix 6 < 7 by decide)]
  rw [up2_comm (c := 0) (c' := 5) (Or.inl (by decide))]
  rfl
theorem k_enter_10 {σ : St} {e : Int32} (h : ¬ σ 6 5 = 0) (hi : k_isHandledOpen σ e = (σ, 0)) : k_enter σ e = up2 (up2 (up2 (up2 (up2 σ 8 (ix 6) (65408 + (16 * (σ 6 6)) + 0)) 6 5 0) 6 6 e) 6 3 ((σ 1 (ix (((8 * (σ 0 9)) + e) &&& 255))) &&& 255)) 0 13 e := by
  unfold k_enter
  simp only [bd2, hi]
  rw [if_neg h]
  unfold k_enter_43_6
  simp only [bd]
  rw [if_neg (show ¬ up2 σ 8 (ix 6) (65408 + (16 * (σ 6 6)) + 0) 6 5 = 0 from h)]
  unfold k_enter_66
  simp only [bd]
  first | rw [if_pos trivial] | rw [if_pos rfl]
  rfl
theorem m_enter_10 {σ : St} {e : Int32} (h : ¬ σ 6 5 = 0) (hz : zb (σ 6 5)) (hf : σ 0 14 = 0) (hi : m_isClosedOne (vK σ) e = (vK σ, 1)) : mrest (vK σ) e = up2 (up2 (up2 (up2 (up2 (vK σ) 5 (ix 6) (65408 + (16 * (σ 6 6)) + 0)) 5 (ix 11) 0) 5 (ix 7) ((σ 1 (ix (((8 * (σ 0 9)) + e) &&& 255))) &&& 255)) 0 10 e) 0 13 e := by
  unfold mrest
  rw [if_pos (show vK σ 0 14 = 0 from hf)]
  simp only [bd2, iow hz]
  rw [if_neg h]
  unfold m_take_96
  simp only [bd2, hi]
  first | rw [if_pos trivial] | rw [if_pos rfl]
  rfl
theorem enter_10 {σ : St} {e : Int32} (hJ : JJ σ) (he : ac e) (h : ¬ σ 6 5 = 0) (hf : σ 0 14 = 0) (hi : k_isHandledOpen σ e = (σ, 0)) (hi' : m_isClosedOne (vK σ) e = (vK σ, 1)) : mrest (vK σ) e = vK (k_enter σ e) ∧ JJ (k_enter σ e) := by
  rw [k_enter_10 h hi, m_enter_10 h (JJ_zo hJ) hf hi']
  refine ⟨?_, JJ_0 (JJ_6_3 (JJ_6_6 (JJ_6_5 (JJ_8 hJ (wd_link (JJ_ac hJ) (by decide))) (by decide)) he) (b8_and _))⟩
  rw [vK_0_13, vK_6_3, vK_6_6, vK_6_5, vK_8 (show ix 6 < 7 by decide)]
  rw [up2_comm (c := 0) (c' := 5) (Or.inl (by decide))]
  rfl
theorem k_enter_11 {σ : St} {e : Int32} (h : ¬ σ 6 5 = 0) (hi : k_isHandledOpen σ e = (σ, 1)) : k_enter σ e = up2 (up2 (up2 (up2 (up2 σ 8 (ix 6) (65408 + (16 * (σ 6 6)) + 0)) 6 5 1) 6 6 e) 6 3 ((σ 1 (ix (((8 * (σ 0 10)) + e) &&& 255))) &&& 255)) 0 13 e := by
  unfold k_enter
  simp only [bd2, hi]
  rw [if_neg h]
  unfold k_enter_43_6
  simp only [bd]
  rw [if_neg (show ¬ up2 σ 8 (ix 6) (65408 + (16 * (σ 6 6)) + 0) 6 5 = 0 from h)]
  unfold k_enter_66
  simp only [bd]
  rw [if_neg (by decide)]
  rfl
theorem m_enter_11 {σ : St} {e : Int32} (h : ¬ σ 6 5 = 0) (hz : zb (σ 6 5)) (hf : σ 0 14 = 0) (hi : m_isClosedOne (vK σ) e = (vK σ, 0)) : mrest (vK σ) e = up2 (up2 (up2 (up2 (up2 (vK σ) 5 (ix 6) (65408 + (16 * (σ 6 6)) + 0)) 5 (ix 11) 1) 5 (ix 7) ((σ 1 (ix (((8 * (σ 0 10)) + e) &&& 255))) &&& 255)) 0 10 e) 0 13 e := by
  unfold mrest
  rw [if_pos (show vK σ 0 14 = 0 from hf)]
  simp only [bd2, iow hz]
  rw [if_neg h]
  unfold m_take_96
  simp only [bd2, hi]
  first | rw [if_pos trivial] | rw [if_pos rfl]
  rfl
theorem enter_11 {σ : St} {e : Int32} (hJ : JJ σ) (he : ac e) (h : ¬ σ 6 5 = 0) (hf : σ 0 14 = 0) (hi : k_isHandledOpen σ e = (σ, 1)) (hi' : m_isClosedOne (vK σ) e = (vK σ, 0)) : mrest (vK σ) e = vK (k_enter σ e) ∧ JJ (k_enter σ e) := by
  rw [k_enter_11 h hi, m_enter_11 h (JJ_zo hJ) hf hi']
  refine ⟨?_, JJ_0 (JJ_6_3 (JJ_6_6 (JJ_6_5 (JJ_8 hJ (wd_link (JJ_ac hJ) (by decide))) (by decide)) he) (b8_and _))⟩
  rw [vK_0_13, vK_6_3, vK_6_6, vK_6_5, vK_8 (show ix 6 < 7 by decide)]
  rw [up2_comm (c := 0) (c' := 5) (Or.inl (by decide))]
  rfl
theorem enter_eq {σ : St} {e : Int32} (hJ : JJ σ) (he : ac e) (hf : σ 0 14 = 0) : mrest (vK σ) e = vK (k_enter σ e) ∧ JJ (k_enter σ e) := by
  by_cases h : σ 6 5 = 0
  · rcases iho σ e with ⟨a, b⟩ | ⟨a, b⟩
    · exact enter_00 hJ he h hf a b
    · exact enter_01 hJ he h hf a b
  · rcases iho σ e with ⟨a, b⟩ | ⟨a, b⟩
    · exact enter_10 hJ he h hf a b
    · exact enter_11 hJ he h hf a b
theorem take_eq {σ τ : St} {e : Int32} (hR : RR σ τ) (hJ : JJ σ) (he : ac e) : m_take τ e (τ 5 (ix 7)) = vK (k_take σ e) ∧ JJ (k_take σ e) := by
  have hX : XX (up2 (k_copy_76 σ) 0 14 0) := ⟨JJ_0 (JJ_cp hJ), rfl, Or.inl rfl⟩
  have hb : τ 5 (ix 7) = (up2 (k_copy_76 σ) 0 14 0) 6 3 := by
    rw [hR.1 5 (by decide)]
    rfl
  rw [m_take_split, keep_eq hR, hb]
  have hE : k_take σ e = k_take σ e := rfl
  have hE := hE.trans (bd_e rfl)
  obtain ⟨σ2, s2⟩ : ∃ z, z = up2 (k_copy_76 σ) 0 14 0 := ⟨_, rfl⟩
  have hE := hE.trans (bd_e s2)
  rw [← s2] at hX ⊢
  obtain ⟨e3, x3⟩ := frame_eq hX
  rw [e3]
  obtain ⟨σ3, s3⟩ : ∃ z, z = k_pushFrame σ2 := ⟨_, rfl⟩
  have hE := hE.trans (bd_e s3)
  rw [← s3] at x3 ⊢
  by_cases hf : σ3 0 14 = 0
  · have hE := hE.trans (if_pos hf)
    have hE : k_take σ e = k_enter σ3 e := hE
    rw [hE]
    exact enter_eq x3.1 he hf
  · have hE := hE.trans (if_neg hf)
    have hE : k_take σ e = up2 (k_copy_67 σ3) 0 11 2 := hE
    rw [hE]
    refine ⟨?_, JJ_0 (JJ_bk x3.1)⟩
    unfold mrest
    rw [if_neg (show ¬ vK σ3 0 14 = 0 from hf), vK_0_11]
    simp only [bd]
    rw [back_eq (DD_of x3.2.1)]
theorem ms6t {τ : St} {x : Int32} (h : ((τ 0 12) >>> ((6 : Int32) &&& 31)) &&& 1 = 1) (ha : (τ 0 10) = 0 ∨ ¬ (τ 0 10) ≤ 6) : m_step_5_6 τ x = m_step_5_5 τ 6 := by
  unfold m_step_5_6
  rw [if_pos h]
  by_cases h0 : (τ 0 10) = 0
  · rw [if_pos h0]
    rfl
  · rw [if_neg h0, if_neg (ha.resolve_left h0)]
    rfl
theorem ms6f {τ : St} {x : Int32} (h : ((τ 0 12) >>> ((6 : Int32) &&& 31)) &&& 1 = 0 ∨ (¬ (τ 0 10) = 0 ∧ (τ 0 10) ≤ 6)) : m_step_5_6 τ x = m_step_5_5 τ x := by
  unfold m_step_5_6
  by_cases h1 : ((τ 0 12) >>> ((6 : Int32) &&& 31)) &&& 1 = 1
  · have h2 := h.resolve_left (fun z => absurd (z.symm.trans h1) (by decide))
    rw [if_pos h1, if_neg h2.1, if_pos h2.2]
    rfl
  · rw [if_neg h1]
    rfl
theorem ms5t {τ : St} {x : Int32} (h : ((τ 0 12) >>> ((5 : Int32) &&& 31)) &&& 1 = 1) (ha : (τ 0 10) = 0 ∨ ¬ (τ 0 10) ≤ 5) : m_step_5_5 τ x = m_step_5_4 τ 5 := by
  unfold m_step_5_5
  rw [if_pos h]
  by_cases h0 : (τ 0 10) = 0
  · rw [if_pos h0]
    rfl
  · rw [if_neg h0, if_neg (ha.resolve_left h0)]
    rfl
theorem ms5f {τ : St} {x : Int32} (h : ((τ 0 12) >>> ((5 : Int32) &&& 31)) &&& 1 = 0 ∨ (¬ (τ 0 10) = 0 ∧ (τ 0 10) ≤ 5)) : m_step_5_5 τ x = m_step_5_4 τ x := by
  unfold m_step_5_5
  by_cases h1 : ((τ 0 12) >>> ((5 : Int32) &&& 31)) &&& 1 = 1
  · have h2 := h.resolve_left (fun z => absurd (z.symm.trans h1) (by decide))
    rw [if_pos h1, if_neg h2.1, if_pos h2.2]
    rfl
  · rw [if_neg h1]
    rfl
theorem ms4t {τ : St} {x : Int32} (h : ((τ 0 12) >>> ((4 : Int32) &&& 31)) &&& 1 = 1) (ha : (τ 0 10) = 0 ∨ ¬ (τ 0 10) ≤ 4) : m_step_5_4 τ x = m_step_5_3 τ 4 := by
  unfold m_step_5_4
  rw [if_pos h]
  by_cases h0 : (τ 0 10) = 0
  · rw [if_pos h0]
    rfl
  · rw [if_neg h0, if_neg (ha.resolve_left h0)]
    rfl
theorem ms4f {τ : St} {x : Int32} (h : ((τ 0 12) >>> ((4 : Int32) &&& 31)) &&& 1 = 0 ∨ (¬ (τ 0 10) = 0 ∧ (τ 0 10) ≤ 4)) : m_step_5_4 τ x = m_step_5_3 τ x := by
  unfold m_step_5_4
  by_cases h1 : ((τ 0 12) >>> ((4 : Int32) &&& 31)) &&& 1 = 1
  · have h2 := h.resolve_left (fun z => absurd (z.symm.trans h1) (by decide))
    rw [if_pos h1, if_neg h2.1, if_pos h2.2]
    rfl
  · rw [if_neg h1]
    rfl
theorem ms3t {τ : St} {x : Int32} (h : ((τ 0 12) >>> ((3 : Int32) &&& 31)) &&& 1 = 1) (ha : (τ 0 10) = 0 ∨ ¬ (τ 0 10) ≤ 3) : m_step_5_3 τ x = m_step_5_2 τ 3 := by
  unfold m_step_5_3
  rw [if_pos h]
  by_cases h0 : (τ 0 10) = 0
  · rw [if_pos h0]
    rfl
  · rw [if_neg h0, if_neg (ha.resolve_left h0)]
    rfl
theorem ms3f {τ : St} {x : Int32} (h : ((τ 0 12) >>> ((3 : Int32) &&& 31)) &&& 1 = 0 ∨ (¬ (τ 0 10) = 0 ∧ (τ 0 10) ≤ 3)) : m_step_5_3 τ x = m_step_5_2 τ x := by
  unfold m_step_5_3
  by_cases h1 : ((τ 0 12) >>> ((3 : Int32) &&& 31)) &&& 1 = 1
  · have h2 := h.resolve_left (fun z => absurd (z.symm.trans h1) (by decide))
    rw [if_pos h1, if_neg h2.1, if_pos h2.2]
    rfl
  · rw [if_neg h1]
    rfl
theorem kt3l {σ : St} {x : Int32} (h : x ≤ 3) : k_takePending_25_3 σ x = σ := by
  unfold k_takePending_25_3
  rw [if_pos h]
theorem kt3f {σ : St} {x : Int32} (h : ((σ 0 12) >>> ((3 : Int32) &&& 31)) &&& 1 = 0) (hx : ¬ x ≤ 3) : k_takePending_25_3 σ x = k_takePending_25_4 σ x := by
  unfold k_takePending_25_3
  rw [if_neg hx, if_pos h]
theorem kt3t {σ : St} {x : Int32} (h : ¬ ((σ 0 12) >>> ((3 : Int32) &&& 31)) &&& 1 = 0) (hx : ¬ x ≤ 3) : k_takePending_25_3 σ x = k_take (up2 σ 0 12 ((σ 0 12) &&& (((1 : Int32) <<< ((3 : Int32) &&& 31)) ^^^ (-1)))) 3 := by
  unfold k_takePending_25_3
  rw [if_neg hx, if_neg h]
  exact (bd_e rfl).trans (bd_e rfl)
theorem kt4l {σ : St} {x : Int32} (h : x ≤ 4) : k_takePending_25_4 σ x = σ := by
  unfold k_takePending_25_4
  rw [if_pos h]
theorem kt4f {σ : St} {x : Int32} (h : ((σ 0 12) >>> ((4 : Int32) &&& 31)) &&& 1 = 0) (hx : ¬ x ≤ 4) : k_takePending_25_4 σ x = k_takePending_25_5 σ x := by
  unfold k_takePending_25_4
  rw [if_neg hx, if_pos h]
theorem kt4t {σ : St} {x : Int32} (h : ¬ ((σ 0 12) >>> ((4 : Int32) &&& 31)) &&& 1 = 0) (hx : ¬ x ≤ 4) : k_takePending_25_4 σ x = k_take (up2 σ 0 12 ((σ 0 12) &&& (((1 : Int32) <<< ((4 : Int32) &&& 31)) ^^^ (-1)))) 4 := by
  unfold k_takePending_25_4
  rw [if_neg hx, if_neg h]
  exact (bd_e rfl).trans (bd_e rfl)
theorem kt5l {σ : St} {x : Int32} (h : x ≤ 5) : k_takePending_25_5 σ x = σ := by
  unfold k_takePending_25_5
  rw [if_pos h]
theorem kt5f {σ : St} {x : Int32} (h : ((σ 0 12) >>> ((5 : Int32) &&& 31)) &&& 1 = 0) (hx : ¬ x ≤ 5) : k_takePending_25_5 σ x = k_takePending_25_6 σ x := by
  unfold k_takePending_25_5
  rw [if_neg hx, if_pos h]
theorem kt5t {σ : St} {x : Int32} (h : ¬ ((σ 0 12) >>> ((5 : Int32) &&& 31)) &&& 1 = 0) (hx : ¬ x ≤ 5) : k_takePending_25_5 σ x = k_take (up2 σ 0 12 ((σ 0 12) &&& (((1 : Int32) <<< ((5 : Int32) &&& 31)) ^^^ (-1)))) 5 := by
  unfold k_takePending_25_5
  rw [if_neg hx, if_neg h]
  exact (bd_e rfl).trans (bd_e rfl)
theorem kt6l {σ : St} {x : Int32} (h : x ≤ 6) : k_takePending_25_6 σ x = σ := by
  unfold k_takePending_25_6
  rw [if_pos h]
theorem kt6f {σ : St} {x : Int32} (h : ((σ 0 12) >>> ((6 : Int32) &&& 31)) &&& 1 = 0) (hx : ¬ x ≤ 6) : k_takePending_25_6 σ x = k_takePending_25_7 σ x := by
  unfold k_takePending_25_6
  rw [if_neg hx, if_pos h]
theorem kt6t {σ : St} {x : Int32} (h : ¬ ((σ 0 12) >>> ((6 : Int32) &&& 31)) &&& 1 = 0) (hx : ¬ x ≤ 6) : k_takePending_25_6 σ x = k_take (up2 σ 0 12 ((σ 0 12) &&& (((1 : Int32) <<< ((6 : Int32) &&& 31)) ^^^ (-1)))) 6 := by
  unfold k_takePending_25_6
  rw [if_neg hx, if_neg h]
  exact (bd_e rfl).trans (bd_e rfl)
theorem le_tr {a b c : Int32} (h : a ≤ b) (h2 : b ≤ c) : a ≤ c := Int32.le_trans h h2
/-- which pending exception a step takes first, on both sides -/
theorem pend_eq {σ τ : St} (h12 : τ 0 12 = σ 0 12) (h10 : τ 0 10 = σ 6 6) (hJ : JJ σ) : (k_takePending σ = σ ∧ m_step τ = m_step_79 τ) ∨ ∃ e : Int32, ac e ∧ k_takePending σ = k_take (up2 σ 0 12 ((σ 0 12) &&& (((1 : Int32) <<< (e &&& 31)) ^^^ (-1)))) e ∧ m_step τ = m_step_79 (m_take (up2 τ 0 12 ((σ 0 12) &&& (((1 : Int32) <<< (e &&& 31)) ^^^ (-1)))) e ((up2 τ 0 12 ((σ 0 12) &&& (((1 : Int32) <<< (e &&& 31)) ^^^ (-1)))) 5 (ix 7))) := by
  have hm : m_step τ = m_step_5_6 τ 0 := rfl
  have fin : ∀ e : Int32, ¬ e ≤ 0 → m_step_5_2 τ e = m_step_79 (m_take (up2 τ 0 12 ((σ 0 12) &&& (((1 : Int32) <<< (e &&& 31)) ^^^ (-1)))) e ((up2 τ 0 12 ((σ 0 12) &&& (((1 : Int32) <<< (e &&& 31)) ^^^ (-1)))) 5 (ix 7))) := by
    intro e he
    unfold m_step_5_2
    rw [if_neg he, h12]
    simp only [bd]
  have fin0 : m_step_5_2 τ 0 = m_step_79 τ := rfl
  obtain ⟨x, hx, hk⟩ : ∃ x : Int32, (∀ e : Int32, (e = 3 ∨ e = 4 ∨ e = 5 ∨ e = 6) → (¬ x ≤ e ↔ (σ 6 6 = 0 ∨ ¬ σ 6 6 ≤ e))) ∧ k_takePending σ = k_takePending_25_3 σ x := by
    unfold k_takePending k_takePending_22
    by_cases h0 : σ 6 6 = 0
    · rw [if_pos h0]
      refine ⟨7, fun e he => ⟨fun _ => Or.inl h0, fun _ => ?_⟩, rfl⟩
      rcases he with rfl | rfl | rfl | rfl <;> decide
    · rw [if_neg h0]
      exact ⟨σ 6 6, fun e _ => ⟨fun z => Or.inr z, fun z => z.resolve_left h0⟩, rfl⟩
  have due : ∀ e : Int32, (e = 3 ∨ e = 4 ∨ e = 5 ∨ e = 6) → ¬ x ≤ e → (τ 0 10 = 0 ∨ ¬ τ 0 10 ≤ e) := fun e he h => by rw [h10]; exact (hx e he).mp h
  have nod : ∀ e : Int32, (e = 3 ∨ e = 4 ∨ e = 5 ∨ e = 6) → x ≤ e → (¬ τ 0 10 = 0 ∧ τ 0 10 ≤ e) := fun e he h => by
    rw [h10]
    have h2 : ¬ (σ 6 6 = 0 ∨ ¬ σ 6 6 ≤ e) := fun z => (hx e he).mpr z h
    exact ⟨fun z => h2 (Or.inl z), Classical.byContradiction (fun z => h2 (Or.inr z))⟩
  rw [hk, hm]
  have m3 : (3 : Int32) = 3 ∨ (3 : Int32) = 4 ∨ (3 : Int32) = 5 ∨ (3 : Int32) = 6 := by decide
  have m4 : (4 : Int32) = 3 ∨ (4 : Int32) = 4 ∨ (4 : Int32) = 5 ∨ (4 : Int32) = 6 := by decide
  have m5 : (5 : Int32) = 3 ∨ (5 : Int32) = 4 ∨ (5 : Int32) = 5 ∨ (5 : Int32) = 6 := by decide
  have m6 : (6 : Int32) = 3 ∨ (6 : Int32) = 4 ∨ (6 : Int32) = 5 ∨ (6 : Int32) = 6 := by decide
  have l34 : (3 : Int32) ≤ 4 := by decide
  have l45 : (4 : Int32) ≤ 5 := by decide
  have l56 : (5 : Int32) ≤ 6 := by decide
  have bit : ∀ e : Int32, (((τ 0 12) >>> (e &&& 31)) &&& 1 = 0 ∧ ((σ 0 12) >>> (e &&& 31)) &&& 1 = 0) ∨ (((τ 0 12) >>> (e &&& 31)) &&& 1 = 1 ∧ ¬ ((σ 0 12) >>> (e &&& 31)) &&& 1 = 0) := by
    intro e
    rw [h12]
    rcases bit_01 ((σ 0 12) >>> (e &&& 31)) with h | h
    · exact Or.inl ⟨h, h⟩
    · exact Or.inr ⟨h, by rw [h]; decide⟩
  by_cases c3 : x ≤ 3
  · have n3 := Or.inr (a := ((τ 0 12) >>> ((3 : Int32) &&& 31)) &&& 1 = 0) (nod 3 m3 c3)
    have c4 := le_tr c3 l34
    have n4 := Or.inr (a := ((τ 0 12) >>> ((4 : Int32) &&& 31)) &&& 1 = 0) (nod 4 m4 c4)
    have c5 := le_tr c4 l45
    have n5 := Or.inr (a := ((τ 0 12) >>> ((5 : Int32) &&& 31)) &&& 1 = 0) (nod 5 m5 c5)
    have c6 := le_tr c5 l56
    have n6 := Or.inr (a := ((τ 0 12) >>> ((6 : Int32) &&& 31)) &&& 1 = 0) (nod 6 m6 c6)
    have g : m_step_5_6 τ 0 = m_step_5_2 τ 0 := by rw [ms6f n6, ms5f n5, ms4f n4, ms3f n3]
    exact Or.inl ⟨kt3l c3, g.trans fin0⟩
  · rcases bit 3 with ⟨b, b'⟩ | ⟨b, b'⟩
    · rw [kt3f b' c3]
      have n3 := Or.inl (b := ¬ τ 0 10 = 0 ∧ τ 0 10 ≤ 3) b
      by_cases c4 : x ≤ 4
      · have n4 := Or.inr (a := ((τ 0 12) >>> ((4 : Int32) &&& 31)) &&& 1 = 0) (nod 4 m4 c4)
        have c5 := le_tr c4 l45
        have n5 := Or.inr (a := ((τ 0 12) >>> ((5 : Int32) &&& 31)) &&& 1 = 0) (nod 5 m5 c5)
        have c6 := le_tr c5 l56
        have n6 := Or.inr (a := ((τ 0 12) >>> ((6 : Int32) &&& 31)) &&& 1 = 0) (nod 6 m6 c6)
        have g : m_step_5_6 τ 0 = m_step_5_2 τ 0 := by rw [ms6f n6, ms5f n5, ms4f n4, ms3f n3]
        exact Or.inl ⟨kt4l c4, g.trans fin0⟩
      · rcases bit 4 with ⟨b, b'⟩ | ⟨b, b'⟩
        · rw [kt4f b' c4]
          have n4 := Or.inl (b := ¬ τ 0 10 = 0 ∧ τ 0 10 ≤ 4) b
          by_cases c5 : x ≤ 5
          · have n5 := Or.inr (a := ((τ 0 12) >>> ((5 : Int32) &&& 31)) &&& 1 = 0) (nod 5 m5 c5)
            have c6 := le_tr c5 l56
            have n6 := Or.inr (a := ((τ 0 12) >>> ((6 : Int32) &&& 31)) &&& 1 = 0) (nod 6 m6 c6)
            have g : m_step_5_6 τ 0 = m_step_5_2 τ 0 := by rw [ms6f n6, ms5f n5, ms4f n4, ms3f n3]
            exact Or.inl ⟨kt5l c5, g.trans fin0⟩
          · rcases bit 5 with ⟨b, b'⟩ | ⟨b, b'⟩
            · rw [kt5f b' c5]
              have n5 := Or.inl (b := ¬ τ 0 10 = 0 ∧ τ 0 10 ≤ 5) b
              by_cases c6 : x ≤ 6
              · have n6 := Or.inr (a := ((τ 0 12) >>> ((6 : Int32) &&& 31)) &&& 1 = 0) (nod 6 m6 c6)
                have g : m_step_5_6 τ 0 = m_step_5_2 τ 0 := by rw [ms6f n6, ms5f n5, ms4f n4, ms3f n3]
                exact Or.inl ⟨kt6l c6, g.trans fin0⟩
              · rcases bit 6 with ⟨b, b'⟩ | ⟨b, b'⟩
                · rw [kt6f b' c6]
                  have n6 := Or.inl (b := ¬ τ 0 10 = 0 ∧ τ 0 10 ≤ 6) b
                  have g : m_step_5_6 τ 0 = m_step_5_2 τ 0 := by rw [ms6f n6, ms5f n5, ms4f n4, ms3f n3]
                  exact Or.inl ⟨rfl, g.trans fin0⟩
                · refine Or.inr ⟨6, by decide, kt6t b' c6, ?_⟩
                  have g : ∀ y : Int32, m_step_5_6 τ y = m_step_5_2 τ 6 := fun y => by rw [ms6t b (due 6 m6 c6), ms5f n5, ms4f n4, ms3f n3]
                  rw [g, fin 6 (by decide)]
            · refine Or.inr ⟨5, by decide, kt5t b' c5, ?_⟩
              have g : ∀ y : Int32, m_step_5_5 τ y = m_step_5_2 τ 5 := fun y => by rw [ms5t b (due 5 m5 c5), ms4f n4, ms3f n3]
              have g : ∀ y : Int32, m_step_5_6 τ y = m_step_5_2 τ 5 := fun y => by
                by_cases d : ((τ 0 12) >>> ((6 : Int32) &&& 31)) &&& 1 = 1 ∧ (τ 0 10 = 0 ∨ ¬ τ 0 10 ≤ 6)
                · rw [ms6t d.1 d.2, g]
                · rcases bit 6 with ⟨w, -⟩ | ⟨w, -⟩
                  · rw [ms6f (Or.inl w), g]
                  · have d2 : ¬ (τ 0 10 = 0 ∨ ¬ τ 0 10 ≤ 6) := fun z => d ⟨w, z⟩
                    rw [ms6f (Or.inr ⟨fun z => d2 (Or.inl z), Classical.byContradiction (fun z => d2 (Or.inr z))⟩), g]
              rw [g, fin 5 (by decide)]
        · refine Or.inr ⟨4, by decide, kt4t b' c4, ?_⟩
          have g : ∀ y : Int32, m_step_5_4 τ y = m_step_5_2 τ 4 := fun y => by rw [ms4t b (due 4 m4 c4), ms3f n3]
          have g : ∀ y : Int32, m_step_5_5 τ y = m_step_5_2 τ 4 := fun y => by
            by_cases d : ((τ 0 12) >>> ((5 : Int32) &&& 31)) &&& 1 = 1 ∧ (τ 0 10 = 0 ∨ ¬ τ 0 10 ≤ 5)
            · rw [ms5t d.1 d.2, g]
            · rcases bit 5 with ⟨w, -⟩ | ⟨w, -⟩
              · rw [ms5f (Or.inl w), g]
              · have d2 : ¬ (τ 0 10 = 0 ∨ ¬ τ 0 10 ≤ 5) := fun z => d ⟨w, z⟩
                rw [ms5f (Or.inr ⟨fun z => d2 (Or.inl z), Classical.byContradiction (fun z => d2 (Or.inr z))⟩), g]
          have g : ∀ y : Int32, m_step_5_6 τ y = m_step_5_2 τ 4 := fun y => by
            by_cases d : ((τ 0 12) >>> ((6 : Int32) &&& 31)) &&& 1 = 1 ∧ (τ 0 10 = 0 ∨ ¬ τ 0 10 ≤ 6)
            · rw [ms6t d.1 d.2, g]
            · rcases bit 6 with ⟨w, -⟩ | ⟨w, -⟩
              · rw [ms6f (Or.inl w), g]
              · have d2 : ¬ (τ 0 10 = 0 ∨ ¬ τ 0 10 ≤ 6) := fun z => d ⟨w, z⟩
                rw [ms6f (Or.inr ⟨fun z => d2 (Or.inl z), Classical.byContradiction (fun z => d2 (Or.inr z))⟩), g]
          rw [g, fin 4 (by decide)]
    · refine Or.inr ⟨3, by decide, kt3t b' c3, ?_⟩
      have g : ∀ y : Int32, m_step_5_3 τ y = m_step_5_2 τ 3 := fun y => by rw [ms3t b (due 3 m3 c3)]
      have g : ∀ y : Int32, m_step_5_4 τ y = m_step_5_2 τ 3 := fun y => by
        by_cases d : ((τ 0 12) >>> ((4 : Int32) &&& 31)) &&& 1 = 1 ∧ (τ 0 10 = 0 ∨ ¬ τ 0 10 ≤ 4)
        · rw [ms4t d.1 d.2, g]
        · rcases bit 4 with ⟨w, -⟩ | ⟨w, -⟩
          · rw [ms4f (Or.inl w), g]
          · have d2 : ¬ (τ 0 10 = 0 ∨ ¬ τ 0 10 ≤ 4) := fun z => d ⟨w, z⟩
            rw [ms4f (Or.inr ⟨fun z => d2 (Or.inl z), Classical.byContradiction (fun z => d2 (Or.inr z))⟩), g]
      have g : ∀ y : Int32, m_step_5_5 τ y = m_step_5_2 τ 3 := fun y => by
        by_cases d : ((τ 0 12) >>> ((5 : Int32) &&& 31)) &&& 1 = 1 ∧ (τ 0 10 = 0 ∨ ¬ τ 0 10 ≤ 5)
        · rw [ms5t d.1 d.2, g]
        · rcases bit 5 with ⟨w, -⟩ | ⟨w, -⟩
          · rw [ms5f (Or.inl w), g]
          · have d2 : ¬ (τ 0 10 = 0 ∨ ¬ τ 0 10 ≤ 5) := fun z => d ⟨w, z⟩
            rw [ms5f (Or.inr ⟨fun z => d2 (Or.inl z), Classical.byContradiction (fun z => d2 (Or.inr z))⟩), g]
      have g : ∀ y : Int32, m_step_5_6 τ y = m_step_5_2 τ 3 := fun y => by
        by_cases d : ((τ 0 12) >>> ((6 : Int32) &&& 31)) &&& 1 = 1 ∧ (τ 0 10 = 0 ∨ ¬ τ 0 10 ≤ 6)
        · rw [ms6t d.1 d.2, g]
        · rcases bit 6 with ⟨w, -⟩ | ⟨w, -⟩
          · rw [ms6f (Or.inl w), g]
          · have d2 : ¬ (τ 0 10 = 0 ∨ ¬ τ 0 10 ≤ 6) := fun z => d ⟨w, z⟩
            rw [ms6f (Or.inr ⟨fun z => d2 (Or.inl z), Classical.byContradiction (fun z => d2 (Or.inr z))⟩), g]
      rw [g, fin 3 (by decide)]
