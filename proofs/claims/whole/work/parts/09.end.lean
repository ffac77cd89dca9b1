-- the end of an instruction: no fault and all agrees, or the same fault
def FM (σ τ : St) : Prop := (σ 0 14 = 0 ∧ τ = vK σ) ∨ ∃ f : Int32, (f = 1 ∨ f = 2) ∧ DD f σ τ
theorem fm_M {σ τ : St} (h : MM σ τ) : FM σ τ := by
  rcases h with ⟨a, b, -⟩ | h
  · exact Or.inl ⟨a, b⟩
  · exact Or.inr ⟨2, Or.inr rfl, h⟩
theorem fm_X {σ : St} (h : XX σ) : FM σ (vK σ) := by
  obtain ⟨-, hA, hf | hf⟩ := h
  · exact Or.inl ⟨hf, rfl⟩
  · exact Or.inr ⟨2, Or.inr rfl, hf ▸ DD_of hA⟩
theorem fm_1 {σ : St} (hA : AE σ) : FM (up2 σ 0 14 1) (vK (up2 σ 0 14 1)) := Or.inr ⟨1, Or.inl rfl, DD_of (σ := up2 σ 0 14 1) hA⟩
theorem mm_e {σ : St} (hA : AE σ) (hf : σ 0 14 = 0) : MM σ (vK σ) := Or.inl ⟨hf, rfl, hA⟩
theorem mm_pop' {σ τ σ' τ' : St} {v v' : Int32} (hs : (σ', v) = k_pop σ) (ht : (τ', v') = m_pop τ) (hJ : JJ σ) (h : MM σ τ) : MM σ' τ' ∧ (σ' 0 14 = 0 → v' = v) ∧ JJ σ' ∧ wd v := by
  have h1 := mm_pop hJ h
  have h2 := JJ_pop hJ
  rw [← hs, ← ht] at h1
  rw [← hs] at h2
  exact ⟨h1.1, h1.2, h2.1, h2.2⟩
theorem mm_read {σ σ' τ' : St} {a v v' : Int32} (hs : (σ', v) = k_read σ a) (ht : (τ', v') = m_read (vK σ) a) (hJ : JJ σ) (hA : AE σ) (hf : σ 0 14 = 0) : MM σ' τ' ∧ (σ' 0 14 = 0 → v' = v) ∧ JJ σ' ∧ wd v := by
  by_cases hm : mayP σ a
  · rw [k_read_t hm] at hs
    rw [m_read_t hJ.1 (JJ_zo hJ) hm] at ht
    cases hs
    cases ht
    exact ⟨mm_e hA hf, fun _ => rfl, hJ, JJ_w hJ _⟩
  · rw [k_read_f hm] at hs
    rw [m_read_f hJ.1 (JJ_zo hJ) hf hm] at ht
    cases hs
    cases ht
    exact ⟨Or.inr (DD_of (σ := up2 σ 0 14 2) hA), fun z => absurd z (show ¬ (2 : Int32) = 0 by decide), JJ_0 hJ, by decide⟩
theorem mm_mark {σ τ : St} {v v' K : Int32} (h : MM σ τ) (hv : σ 0 14 = 0 → v' = v) : MM (if v = K then σ else up2 σ 0 14 2) (if v' = K then τ else m_speak τ 2) := by
  rcases h with ⟨h1, h2, h3⟩ | h
  · rw [hv h1]
    by_cases hk : v = K
    · rw [if_pos hk, if_pos hk]
      exact Or.inl ⟨h1, h2, h3⟩
    · rw [if_neg hk, if_neg hk]
      exact mm_f (Or.inl ⟨h1, h2, h3⟩)
  · have hs : m_speak τ 2 = τ := spk_n (by rw [DD_f h]; decide)
    rw [hs]
    have e1 : (if v' = K then τ else τ) = τ := by split <;> rfl
    rw [e1]
    by_cases hk : v = K
    · rw [if_pos hk]
      exact Or.inr h
    · rw [if_neg hk]
      exact Or.inr (dk14 h)
theorem JJ_mark {σ : St} {v K : Int32} (h : JJ σ) : JJ (if v = K then σ else up2 σ 0 14 2) := by
  split
  · exact h
  · exact JJ_0 h
theorem ite_bd {α β : Type} {c : Prop} {_ : Decidable c} (F : α → β) (a b : α) : (if c then F a else bd b F) = F (if c then a else b) := by split <;> rfl
theorem ite_F {α β : Type} {c : Prop} {_ : Decidable c} (F : α → β) (a b : α) : (if c then F a else F b) = F (if c then a else b) := by split <;> rfl
theorem m_pop_ex (τ : St) : ∃ (a : St) (b : Int32), (a, b) = m_pop τ := ⟨_, _, rfl⟩
theorem k_pop_ex (σ : St) : ∃ (a : St) (b : Int32), (a, b) = k_pop σ := ⟨_, _, rfl⟩
-- END: what an exception's frame gives back
theorem zif {v : Int32} : zb (if v = 0 then (0 : Int32) else 1) := by split <;> decide
theorem ex_97 {σ τ : St} {x v w : Int32} (J : JJ σ) (M : MM σ τ) (hx : ac x) (hv : zb v) (hq : σ 0 14 = 0 → w = v) : FM (k_endException_97 σ x v) (m_endException_108_10 τ x w) ∧ JJ (k_endException_97 σ x v) := by
  have M0 := mm_z M hq
  have J0 := JJ_6_4 J hv
  obtain ⟨σ1, v1, s1⟩ := k_pop_ex (up2 σ 6 4 v)
  obtain ⟨τ1, w1, t1⟩ := m_pop_ex (up2 τ 5 10 w)
  obtain ⟨M1, q1, J1, d1⟩ := mm_pop' s1 t1 J0 M0
  have M2 := mm_pc (v := v1 &&& 255) (v' := w1 &&& 255) M1 (fun z => by rw [q1 z])
  have J2 := JJ_6_3 J1 (b8_and v1)
  have hE : k_endException_97 σ x v = up2 (up2 σ1 6 3 (v1 &&& 255)) 6 6 x := (bd_e rfl).trans ((bd2_e s1).trans ((bd_e rfl).trans (bd_e rfl)))
  have hT : m_endException_108_10 τ x w = if ((up2 τ1 5 7 (w1 &&& 255)) 0 14) = 0 then up2 (up2 τ1 5 7 (w1 &&& 255)) 0 10 x else up2 τ1 5 7 (w1 &&& 255) := (bd_e rfl).trans ((bd2_e t1).trans (bd_e rfl))
  rw [hE, hT]
  refine ⟨?_, JJ_6_6 J2 hx⟩
  generalize up2 σ1 6 3 (v1 &&& 255) = σ2 at *
  generalize up2 τ1 5 7 (w1 &&& 255) = τ2 at *
  rcases M2 with ⟨a, rfl, -⟩ | M2
  · rw [if_pos (show vK σ2 0 14 = 0 from a), ← vK_6_6]
    exact Or.inl ⟨a, rfl⟩
  · rw [if_neg (show ¬ τ2 0 14 = 0 by rw [DD_f M2]; decide)]
    exact Or.inr ⟨2, Or.inr rfl, dk6 M2⟩
theorem ex_n1 {σ τ : St} {x : Int32} (J : JJ σ) (M : MM σ τ) (hx : ac x) : FM (k_endException_44_n1 σ x) (m_endException_57_n1 τ x) ∧ JJ (k_endException_44_n1 σ x) := by
  obtain ⟨σ1, v1, s1⟩ := k_pop_ex σ
  obtain ⟨τ1, w1, t1⟩ := m_pop_ex τ
  obtain ⟨M1, q1, J1, d1⟩ := mm_pop' s1 t1 J M
  have M2 := mm_r (k := ix 6) (by decide) M1 q1
  have J2 := JJ_8 (k := ix 6) J1 d1
  obtain ⟨σ3, v3, s3⟩ := k_pop_ex (up2 σ1 8 (ix 6) v1)
  obtain ⟨τ3, w3, t3⟩ := m_pop_ex (up2 τ1 5 (ix 6) w1)
  obtain ⟨M3, q3, J3, d3⟩ := mm_pop' s3 t3 J2 M2
  have hE : k_endException_44_n1 σ x = k_endException_97 σ3 x (if v3 = 0 then 0 else 1) := (bd2_e s1).trans ((bd_e rfl).trans ((bd2_e s3).trans (ite_F (fun z => k_endException_97 σ3 x z) 0 1)))
  have hT : m_endException_57_n1 τ x = m_endException_108_10 τ3 x (if w3 = 0 then 0 else 1) := (bd2_e t1).trans ((bd_e rfl).trans ((bd2_e t3).trans (ite_F (fun z => m_endException_108_10 τ3 x z) 0 1)))
  rw [hE, hT]
  exact ex_97 J3 M3 hx zif (fun z => by rw [q3 z])
theorem ex_0 {σ τ : St} {x : Int32} (J : JJ σ) (M : MM σ τ) (hx : ac x) : FM (k_endException_44_0 σ x) (m_endException_57_0 τ x) ∧ JJ (k_endException_44_0 σ x) := by
  obtain ⟨σ1, v1, s1⟩ := k_pop_ex σ
  obtain ⟨τ1, w1, t1⟩ := m_pop_ex τ
  obtain ⟨M1, q1, J1, d1⟩ := mm_pop' s1 t1 J M
  have hE : k_endException_44_0 σ x = k_endException_44_n1 (up2 σ1 8 (ix 0) v1) x := (bd2_e s1).trans (bd_e rfl)
  have hT : m_endException_57_0 τ x = m_endException_57_n1 (up2 τ1 5 (ix 0) w1) x := (bd2_e t1).trans (bd_e rfl)
  rw [hE, hT]
  exact ex_n1 (JJ_8 J1 d1) (mm_r (by decide) M1 q1) hx
theorem ex_1 {σ τ : St} {x : Int32} (J : JJ σ) (M : MM σ τ) (hx : ac x) : FM (k_endException_44_1 σ x) (m_endException_57_1 τ x) ∧ JJ (k_endException_44_1 σ x) := by
  obtain ⟨σ1, v1, s1⟩ := k_pop_ex σ
  obtain ⟨τ1, w1, t1⟩ := m_pop_ex τ
  obtain ⟨M1, q1, J1, d1⟩ := mm_pop' s1 t1 J M
  have hE : k_endException_44_1 σ x = k_endException_44_0 (up2 σ1 8 (ix 1) v1) x := (bd2_e s1).trans (bd_e rfl)
  have hT : m_endException_57_1 τ x = m_endException_57_0 (up2 τ1 5 (ix 1) w1) x := (bd2_e t1).trans (bd_e rfl)
  rw [hE, hT]
  exact ex_0 (JJ_8 J1 d1) (mm_r (by decide) M1 q1) hx
theorem ex_2 {σ τ : St} {x : Int32} (J : JJ σ) (M : MM σ τ) (hx : ac x) : FM (k_endException_44_2 σ x) (m_endException_57_2 τ x) ∧ JJ (k_endException_44_2 σ x) := by
  obtain ⟨σ1, v1, s1⟩ := k_pop_ex σ
  obtain ⟨τ1, w1, t1⟩ := m_pop_ex τ
  obtain ⟨M1, q1, J1, d1⟩ := mm_pop' s1 t1 J M
  have hE : k_endException_44_2 σ x = k_endException_44_1 (up2 σ1 8 (ix 2) v1) x := (bd2_e s1).trans (bd_e rfl)
  have hT : m_endException_57_2 τ x = m_endException_57_1 (up2 τ1 5 (ix 2) w1) x := (bd2_e t1).trans (bd_e rfl)
  rw [hE, hT]
  exact ex_1 (JJ_8 J1 d1) (mm_r (by decide) M1 q1) hx
theorem ex_3 {σ τ : St} {x : Int32} (J : JJ σ) (M : MM σ τ) (hx : ac x) : FM (k_endException_44_3 σ x) (m_endException_57_3 τ x) ∧ JJ (k_endException_44_3 σ x) := by
  obtain ⟨σ1, v1, s1⟩ := k_pop_ex σ
  obtain ⟨τ1, w1, t1⟩ := m_pop_ex τ
  obtain ⟨M1, q1, J1, d1⟩ := mm_pop' s1 t1 J M
  have hE : k_endException_44_3 σ x = k_endException_44_2 (up2 σ1 8 (ix 3) v1) x := (bd2_e s1).trans (bd_e rfl)
  have hT : m_endException_57_3 τ x = m_endException_57_2 (up2 τ1 5 (ix 3) w1) x := (bd2_e t1).trans (bd_e rfl)
  rw [hE, hT]
  exact ex_2 (JJ_8 J1 d1) (mm_r (by decide) M1 q1) hx
theorem ex_4 {σ τ : St} {x : Int32} (J : JJ σ) (M : MM σ τ) (hx : ac x) : FM (k_endException_44_4 σ x) (m_endException_57_4 τ x) ∧ JJ (k_endException_44_4 σ x) := by
  obtain ⟨σ1, v1, s1⟩ := k_pop_ex σ
  obtain ⟨τ1, w1, t1⟩ := m_pop_ex τ
  obtain ⟨M1, q1, J1, d1⟩ := mm_pop' s1 t1 J M
  have hE : k_endException_44_4 σ x = k_endException_44_3 (up2 σ1 8 (ix 4) v1) x := (bd2_e s1).trans (bd_e rfl)
  have hT : m_endException_57_4 τ x = m_endException_57_3 (up2 τ1 5 (ix 4) w1) x := (bd2_e t1).trans (bd_e rfl)
  rw [hE, hT]
  exact ex_3 (JJ_8 J1 d1) (mm_r (by decide) M1 q1) hx
theorem ex_5 {σ τ : St} {x : Int32} (J : JJ σ) (M : MM σ τ) (hx : ac x) : FM (k_endException_44_5 σ x) (m_endException_57_5 τ x) ∧ JJ (k_endException_44_5 σ x) := by
  obtain ⟨σ1, v1, s1⟩ := k_pop_ex σ
  obtain ⟨τ1, w1, t1⟩ := m_pop_ex τ
  obtain ⟨M1, q1, J1, d1⟩ := mm_pop' s1 t1 J M
  have hE : k_endException_44_5 σ x = k_endException_44_4 (up2 σ1 8 (ix 5) v1) x := (bd2_e s1).trans (bd_e rfl)
  have hT : m_endException_57_5 τ x = m_endException_57_4 (up2 τ1 5 (ix 5) w1) x := (bd2_e t1).trans (bd_e rfl)
  rw [hE, hT]
  exact ex_4 (JJ_8 J1 d1) (mm_r (by decide) M1 q1) hx
theorem endx {σ τ : St} {x y : Int32} (hJ : JJ σ) (hM : MM σ τ) (hx : ac x) (hy : zb y) : FM (k_endException_22 σ x y) (m_endException_34_11 τ x y) ∧ JJ (k_endException_22 σ x y) := by
  have M0 := mm_o (v := y) hM
  have J0 := JJ_6_5 hJ hy
  obtain ⟨σ1, v1, s1⟩ := k_pop_ex (up2 σ 6 5 y)
  obtain ⟨τ1, w1, t1⟩ := m_pop_ex (up2 τ 5 11 y)
  obtain ⟨M1, q1, J1, d1⟩ := mm_pop' s1 t1 J0 M0
  have M2 := mm_mark (K := 1000 + x) M1 q1
  have J2 := JJ_mark (v := v1) (K := 1000 + x) J1
  have hE : k_endException_22 σ x y = k_endException_44_5 (if v1 = 1000 + x then σ1 else up2 σ1 0 14 2) x := (bd_e rfl).trans ((bd2_e s1).trans (ite_bd (fun z => k_endException_44_5 z x) σ1 (up2 σ1 0 14 2)))
  have hT : m_endException_34_11 τ x y = m_endException_57_5 (if w1 = 1000 + x then τ1 else m_speak τ1 2) x := (bd_e rfl).trans ((bd2_e t1).trans (ite_bd (fun z => m_endException_57_5 z x) τ1 (m_speak τ1 2)))
  rw [hE, hT]
  exact ex_5 J2 M2 hx
theorem endo {σ : St} (hJ : JJ σ) (hA : AE σ) (hf : σ 0 14 = 0) (ho : ¬ σ 6 5 = 0) : FM (k_endOutCall σ) (m_returns_65 (vK σ) 65520) ∧ JJ (k_endOutCall σ) := by
  have hE : k_endOutCall σ = k_endOutCall σ := rfl
  have hT : m_returns_65 (vK σ) 65520 = m_returns_65 (vK σ) 65520 := rfl
  have hT := hT.trans (if_pos rfl)
  have hT := hT.trans (bd2_e (iow (JJ_zo hJ)).symm)
  have hT := hT.trans (if_neg ho)
  obtain ⟨σ1, s1⟩ : ∃ z, z = up2 σ 6 5 0 := ⟨_, rfl⟩
  obtain ⟨τ1, t1⟩ : ∃ z, z = up2 (vK σ) 5 (ix 11) 0 := ⟨_, rfl⟩
  have hE := hE.trans (bd_e s1)
  have hT := hT.trans (bd_e t1)
  have M1 : MM σ1 τ1 := by rw [s1, t1]; exact mm_o (v := 0) (mm_e hA hf)
  have J1 : JJ σ1 := by rw [s1]; exact JJ_6_5 (v := 0) hJ (by decide)
  clear s1 t1
  obtain ⟨σ2, v2, s2⟩ := k_pop_ex σ1
  obtain ⟨τ2, w2, t2⟩ := m_pop_ex τ1
  have hE := hE.trans (bd2_e s2)
  have hT := hT.trans (bd2_e t2)
  obtain ⟨M2, q2, J2, d2⟩ := mm_pop' s2 t2 J1 M1
  clear s2 t2 M1 J1
  have hE := hE.trans (ite_bd (fun z => k_endOutCall_23 z) σ2 (up2 σ2 0 14 2))
  have hT := hT.trans (ite_bd (fun z => m_returns_103 z) τ2 (m_speak τ2 2))
  obtain ⟨σ3, s3⟩ : ∃ z, z = (if v2 = 4096 then σ2 else up2 σ2 0 14 2) := ⟨_, rfl⟩
  obtain ⟨τ3, t3⟩ : ∃ z, z = (if w2 = 4096 then τ2 else m_speak τ2 2) := ⟨_, rfl⟩
  have hE := hE.trans (congrArg (fun z => k_endOutCall_23 z) s3.symm)
  have hT := hT.trans (congrArg (fun z => m_returns_103 z) t3.symm)
  have M3 : MM σ3 τ3 := by rw [s3, t3]; exact mm_mark (K := 4096) M2 q2
  have J3 : JJ σ3 := by rw [s3]; exact JJ_mark (v := v2) (K := 4096) J2
  clear s3 t3
  obtain ⟨σ4, v4, s4⟩ := k_pop_ex σ3
  obtain ⟨τ4, w4, t4⟩ := m_pop_ex τ3
  have hE := hE.trans (bd2_e s4)
  have hT := hT.trans (bd2_e t4)
  obtain ⟨M4, q4, J4, d4⟩ := mm_pop' s4 t4 J3 M3
  clear s4 t4 M3 J3
  have hE : k_endOutCall σ = up2 σ4 6 3 (v4 &&& 255) := hE
  have hT : m_returns_65 (vK σ) 65520 = up2 τ4 5 7 (w4 &&& 255) := hT
  rw [hE, hT]
  exact ⟨fm_M (mm_pc M4 (fun z => by rw [q4 z])), JJ_6_3 J4 (b8_and _)⟩
theorem lnk {x : Int32} (hw : wd x) (h1 : ¬ x < 65408) (h2 : ¬ 65520 ≤ x) : ∃ j : Nat, j < 112 ∧ x - 65408 = nI j := by
  have e := nat_nI x
  have hw : x.toBitVec.toNat < 65536 := hw
  have hb : x.toBitVec.toNat < 2 ^ 31 := Nat.lt_trans hw (by decide)
  generalize x.toBitVec.toNat = n at *
  subst e
  have a1 : ¬ nI n < nI 65408 := h1
  have a2 : ¬ nI 65520 ≤ nI n := h2
  rw [nI_ltI hb (by decide)] at a1
  rw [nI_leI (by decide) hb] at a2
  refine ⟨n - 65408, by omega, ?_⟩
  show nI n - nI 65408 = _
  exact pk_sub (by omega)
theorem fr112 : ∀ j : Fin 112, (nI j.val >>> ((4 : Int32) &&& 31)) &&& 7 = nI j.val / 16 ∧ ac (nI j.val / 16) := by decide +kernel
theorem endE {σ : St} (hJ : JJ σ) (hA : AE σ) (hf : σ 0 14 = 0) (h1 : ¬ σ 8 6 < 65408) (h2 : ¬ 65520 ≤ σ 8 6) : FM (k_endException σ (σ 8 6 - 65408)) (m_endException (vK σ)) ∧ JJ (k_endException σ (σ 8 6 - 65408)) := by
  obtain ⟨j, hj, e⟩ := lnk (JJ_r hJ 6) h1 h2
  have f := fr112 ⟨j, hj⟩
  have f : (nI j >>> ((4 : Int32) &&& 31)) &&& 7 = nI j / 16 ∧ ac (nI j / 16) := f
  unfold k_endException m_endException
  rw [show vK σ 5 (ix 6) = σ 8 6 from rfl, e, f.1]
  rcases bit_01 (nI j) with b | b
  · rw [b]
    exact endx hJ (mm_e hA hf) f.2 (by decide)
  · rw [b]
    exact endx hJ (mm_e hA hf) f.2 (by decide)
theorem back49 {σ : St} (hJ : JJ σ) (hA : AE σ) (hf : σ 0 14 = 0) : FM (k_goBack_49 σ (σ 8 6)) (m_returns_65 (vK σ) (σ 8 6)) ∧ JJ (k_goBack_49 σ (σ 8 6)) := by
  have hbr : ∀ {a : St} {b : St}, a = up2 σ 0 14 2 → b = m_speak (vK σ) 2 → FM a b ∧ JJ a := fun h1 h2 => by
    rw [h1, h2]
    exact ⟨fm_M (mm_f (mm_e hA hf)), JJ_0 hJ⟩
  have h72 : FM (k_goBack_72 σ (σ 8 6)) (m_returns_121 (vK σ) (σ 8 6)) ∧ JJ (k_goBack_72 σ (σ 8 6)) := by
    unfold k_goBack_72 m_returns_121
    by_cases h1 : σ 8 6 < 65408
    · rw [if_pos h1, if_pos h1]
      exact hbr rfl rfl
    · rw [if_neg h1, if_neg h1]
      by_cases h2 : 65520 ≤ σ 8 6
      · rw [if_pos h2, if_pos h2]
        exact hbr rfl rfl
      · rw [if_neg h2, if_neg h2]
        by_cases h3 : σ 6 6 = 0
        · rw [if_pos h3, if_pos (show vK σ 0 10 = 0 from h3)]
          exact hbr rfl rfl
        · rw [if_neg h3, if_neg (show ¬ vK σ 0 10 = 0 from h3)]
          exact endE hJ hA hf h1 h2
  by_cases h1 : σ 8 6 = 65520
  · by_cases h2 : σ 6 5 = 0
    · have a : k_goBack_49 σ (σ 8 6) = k_goBack_72 σ (σ 8 6) := by
        unfold k_goBack_49
        rw [if_pos h1, if_pos h2]
      have b : m_returns_65 (vK σ) (σ 8 6) = m_returns_121 (vK σ) (σ 8 6) := by
        unfold m_returns_65
        rw [if_pos h1]
        simp only [bd2, iow (JJ_zo hJ)]
        rw [if_pos h2]
      rw [a, b]
      exact h72
    · have a : k_goBack_49 σ (σ 8 6) = k_endOutCall σ := by
        unfold k_goBack_49
        rw [if_pos h1, if_neg h2]
        rfl
      rw [a, h1]
      exact endo hJ hA hf h2
  · have a : k_goBack_49 σ (σ 8 6) = k_goBack_72 σ (σ 8 6) := by
      unfold k_goBack_49
      rw [if_neg h1]
    have b : m_returns_65 (vK σ) (σ 8 6) = m_returns_121 (vK σ) (σ 8 6) := by
      unfold m_returns_65
      rw [if_neg h1]
    rw [a, b]
    exact h72
theorem retn {σ : St} (hJ : JJ σ) (hA : AE σ) (hf : σ 0 14 = 0) : FM (k_goBack σ) (m_returns (vK σ)) ∧ JJ (k_goBack σ) := by
  have e6 : σ 8 (ix 6) = σ 8 6 := rfl
  have v6 : vK σ 5 (ix 6) = σ 8 6 := rfl
  unfold k_goBack m_returns
  rw [e6, v6]
  by_cases h1 : 32768 ≤ σ 8 6
  · rw [if_pos h1, if_pos h1]
    by_cases h2 : 65408 ≤ σ 8 6
    · rw [if_pos h2, if_pos h2]
      exact back49 hJ hA hf
    · rw [if_neg h2, if_neg h2]
      simp only [bd2, iow (JJ_zo hJ)]
      by_cases h3 : σ 6 5 = 0
      · rw [if_pos h3, if_pos h3]
        have a : (bd (k_goOut σ (σ 8 6)) fun σ14 => k_goBack_110 σ14) = up2 (up2 σ 6 5 1) 6 3 (σ 8 6 &&& 255) := rfl
        have b : (bd (up2 (vK σ) 5 (ix 11) 1) fun σ23 => bd (up2 σ23 5 (ix 7) (σ 8 6 &&& 255)) fun σ24 => m_returns_152 σ24) = up2 (up2 (vK σ) 5 11 1) 5 7 (σ 8 6 &&& 255) := rfl
        rw [a, b]
        exact ⟨fm_M (mm_pc (mm_o (mm_e hA hf)) (fun _ => rfl)), JJ_6_3 (JJ_6_5 hJ (by decide)) (b8_and _)⟩
      · rw [if_neg h3, if_neg h3]
        exact back49 hJ hA hf
  · rw [if_neg h1, if_neg h1]
    have a : (bd (k_goTo σ (σ 8 6)) fun σ15 => k_goBack_110 σ15) = up2 σ 6 3 (σ 8 6 &&& 255) := rfl
    have b : (bd (up2 (vK σ) 5 (ix 7) (σ 8 6 &&& 255)) fun σ25 => m_returns_152 σ25) = up2 (vK σ) 5 7 (σ 8 6 &&& 255) := rfl
    rw [a, b]
    exact ⟨fm_M (mm_pc (mm_e hA hf) (fun _ => rfl)), JJ_6_3 hJ (b8_and _)⟩
