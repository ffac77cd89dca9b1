-- access
def mayP (σ : St) (a : Int32) : Prop := σ 6 5 = 0 ∨ σ 2 (ix (a &&& 255)) = 1
theorem kat {σ : St} (hk : kd σ) (a : Int32) : m_kindAt (vK σ) a = (vK σ, σ 2 (ix (a &&& 255))) := by
  rw [mk]
  show (vK σ, kof (σ 3) (σ 4) (σ 5) (a &&& 255)) = _
  have h : (a &&& 255).toBitVec.toNat < 256 := and_lt a 255 (by decide)
  rw [wd_ix (Nat.lt_trans h (by decide)), hk _ h, ← nat_nI]
theorem iow {σ : St} (hz : zb (σ 6 5)) : m_isOpenWorld (vK σ) = (vK σ, σ 6 5) := by
  have e : vK σ 5 (ix 11) = σ 6 5 := rfl
  unfold m_isOpenWorld m_isOpenWorld_16
  rw [e]
  rcases hz with h | h <;> rw [h] <;> rfl
theorem may_t {σ : St} {a : Int32} (hk : kd σ) (hz : zb (σ 6 5)) (h : mayP σ a) : m_mayUse (vK σ) a = (vK σ, 1) := by
  unfold m_mayUse
  simp only [bd2, iow hz]
  by_cases h0 : σ 6 5 = 0
  · rw [if_pos h0]
    rfl
  · rw [if_neg h0]
    simp only [kat hk]
    rw [if_pos (h.resolve_left h0)]
    rfl
theorem may_f {σ : St} {a : Int32} (hk : kd σ) (hz : zb (σ 6 5)) (h : ¬ mayP σ a) : m_mayUse (vK σ) a = (vK σ, 0) := by
  unfold m_mayUse
  simp only [bd2, iow hz]
  rw [if_neg (fun z => h (Or.inl z))]
  simp only [kat hk]
  rw [if_neg (fun z => h (Or.inr z))]
  rfl
theorem spk {τ : St} {x : Int32} (h : τ 0 14 = 0) : m_speak τ x = up2 τ 0 14 x := by
  unfold m_speak
  rw [if_pos h]
  rfl
theorem spk_n {τ : St} {x : Int32} (h : ¬ τ 0 14 = 0) : m_speak τ x = τ := by
  unfold m_speak
  rw [if_neg h]
  rfl
theorem k_read_t {σ : St} {a : Int32} (h : mayP σ a) : k_read σ a = (σ, σ 1 (ix (a &&& 255))) := by
  unfold k_read k_read_33
  by_cases h0 : σ 6 5 = 0
  · rw [if_pos h0]
  · rw [if_neg h0, if_pos (h.resolve_left h0)]
theorem k_read_f {σ : St} {a : Int32} (h : ¬ mayP σ a) : k_read σ a = (up2 σ 0 14 2, 0) := by
  unfold k_read
  rw [if_neg (fun z => h (Or.inl z)), if_neg (fun z => h (Or.inr z))]
  rfl
theorem m_read_t {σ : St} {a : Int32} (hk : kd σ) (hz : zb (σ 6 5)) (h : mayP σ a) : m_read (vK σ) a = (vK σ, σ 1 (ix (a &&& 255))) := by
  unfold m_read
  simp only [bd2, may_t hk hz h]
  rw [if_neg (by decide)]
  rfl
theorem m_read_f {σ : St} {a : Int32} (hk : kd σ) (hz : zb (σ 6 5)) (hf : σ 0 14 = 0) (h : ¬ mayP σ a) : m_read (vK σ) a = (vK (up2 σ 0 14 2), σ 1 (ix (a &&& 255))) := by
  unfold m_read
  simp only [bd2, bd, may_f hk hz h]
  rw [if_pos trivial, spk (show vK σ 0 14 = 0 from hf), ← vK_0_14]
  rfl
theorem k_write_t {σ : St} {a v : Int32} (h : mayP σ a) (hf : σ 0 14 = 0) : k_write σ a v = up2 σ 1 (ix (a &&& 255)) v := by
  have e : k_write_31 σ v (a &&& 255) = up2 σ 1 (ix (a &&& 255)) v := by
    unfold k_write_31
    rw [if_pos hf]
    rfl
  unfold k_write
  by_cases h0 : σ 6 5 = 0
  · rw [if_pos h0, e]
  · rw [if_neg h0, if_pos (h.resolve_left h0), e]
theorem k_write_d {σ : St} {a v : Int32} (h : mayP σ a) (hf : ¬ σ 0 14 = 0) : k_write σ a v = σ := by
  have e : k_write_31 σ v (a &&& 255) = σ := by
    unfold k_write_31
    rw [if_neg hf]
    rfl
  unfold k_write
  by_cases h0 : σ 6 5 = 0
  · rw [if_pos h0, e]
  · rw [if_neg h0, if_pos (h.resolve_left h0), e]
theorem k_write_f {σ : St} {a v : Int32} (h : ¬ mayP σ a) : k_write σ a v = up2 σ 0 14 2 := by
  unfold k_write
  rw [if_neg (fun z => h (Or.inl z)), if_neg (fun z => h (Or.inr z))]
  show k_write_31 (up2 σ 0 14 2) v (a &&& 255) = _
  unfold k_write_31
  rw [if_neg (show ¬ (up2 σ 0 14 2) 0 14 = 0 from (show ¬ (2 : Int32) = 0 by decide))]
  rfl
theorem m_write_t {σ : St} {a v : Int32} (hk : kd σ) (hz : zb (σ 6 5)) (hf : σ 0 14 = 0) (hv : wd v) (h : mayP σ a) : m_write (vK σ) a v = vK (up2 σ 1 (ix (a &&& 255)) v) := by
  unfold m_write
  rw [if_pos (show vK σ 0 14 = 0 from hf)]
  simp only [bd2, bd, may_t hk hz h]
  rw [if_neg (by decide), wd_id hv, vK_1]
  rfl
theorem m_write_f {σ : St} {a v : Int32} (hk : kd σ) (hz : zb (σ 6 5)) (hf : σ 0 14 = 0) (h : ¬ mayP σ a) : m_write (vK σ) a v = vK (up2 σ 0 14 2) := by
  unfold m_write
  rw [if_pos (show vK σ 0 14 = 0 from hf)]
  simp only [bd2, bd, may_f hk hz h]
  rw [if_pos trivial, spk (show vK σ 0 14 = 0 from hf), ← vK_0_14]
  rfl
theorem m_write_d {τ : St} {a v : Int32} (hf : ¬ τ 0 14 = 0) : m_write τ a v = τ := by
  unfold m_write
  rw [if_neg hf]
abbrev f02 (σ : St) : Prop := σ 0 14 = 0 ∨ σ 0 14 = 2
theorem write_eq {σ : St} {a v : Int32} (hk : kd σ) (hz : zb (σ 6 5)) (hf : f02 σ) (hv : wd v) : m_write (vK σ) a v = vK (k_write σ a v) := by
  by_cases h : mayP σ a
  · rcases hf with hf | hf
    · rw [m_write_t hk hz hf hv h, k_write_t h hf]
    · have hn : ¬ σ 0 14 = 0 := by rw [hf]; decide
      rw [m_write_d (show ¬ vK σ 0 14 = 0 from hn), k_write_d h hn]
  · rw [k_write_f h]
    rcases hf with hf | hf
    · rw [m_write_f hk hz hf h]
    · have hn : ¬ σ 0 14 = 0 := by rw [hf]; decide
      rw [m_write_d (show ¬ vK σ 0 14 = 0 from hn), up2_same hf]
-- before and now agree on ACTIVE
abbrev AE (σ : St) : Prop := σ 6 6 = σ 7 6
def XX (σ : St) : Prop := JJ σ ∧ AE σ ∧ f02 σ
theorem XX_write {σ : St} {a v : Int32} (h : XX σ) (hv : wd v) : XX (k_write σ a v) := by
  obtain ⟨hJ, hA, hf⟩ := h
  by_cases hm : mayP σ a
  · by_cases h0 : σ 0 14 = 0
    · rw [k_write_t hm h0]
      exact ⟨JJ_1 hJ hv, hA, hf⟩
    · rw [k_write_d hm h0]
      exact ⟨hJ, hA, hf⟩
  · rw [k_write_f hm]
    exact ⟨JJ_0 hJ, hA, Or.inr rfl⟩
theorem k_push_c {σ : St} {v : Int32} (h : σ 6 5 = 0) : k_push σ v = k_write (up2 σ 6 1 ((σ 6 1 - 1) &&& 65535)) ((σ 6 1 - 1) &&& 65535) v := by
  unfold k_push k_stack k_stack_18 k_setStack k_setStack_20
  rw [if_pos h]
  simp only [bd2, bd]
  rw [if_pos h]
theorem k_push_o {σ : St} {v : Int32} (h : ¬ σ 6 5 = 0) : k_push σ v = k_write (up2 σ 6 2 ((σ 6 2 - 1) &&& 65535)) ((σ 6 2 - 1) &&& 65535) v := by
  unfold k_push k_stack k_stack_18 k_setStack k_setStack_20
  rw [if_neg h]
  simp only [bd2, bd]
  rw [if_neg h]
theorem m_stack_c {σ : St} (hz : zb (σ 6 5)) (h : σ 6 5 = 0) : m_stack (vK σ) = (vK σ, 8) := by
  unfold m_stack m_stack_14
  simp only [bd2, iow hz]
  rw [if_pos h]
theorem m_stack_o {σ : St} (hz : zb (σ 6 5)) (h : ¬ σ 6 5 = 0) : m_stack (vK σ) = (vK σ, 9) := by
  unfold m_stack m_stack_14
  simp only [bd2, iow hz]
  rw [if_neg h]
theorem m_push_c {σ : St} {v : Int32} (hz : zb (σ 6 5)) (h : σ 6 5 = 0) : m_push (vK σ) v = m_write (vK (up2 σ 6 1 ((σ 6 1 - 1) &&& 65535))) ((σ 6 1 - 1) &&& 65535) v := by
  unfold m_push
  simp only [bd2, bd, m_stack_c hz h, ix_8]
  rw [vK_6_1]
  rfl
theorem m_push_o {σ : St} {v : Int32} (hz : zb (σ 6 5)) (h : ¬ σ 6 5 = 0) : m_push (vK σ) v = m_write (vK (up2 σ 6 2 ((σ 6 2 - 1) &&& 65535))) ((σ 6 2 - 1) &&& 65535) v := by
  unfold m_push
  simp only [bd2, bd, m_stack_o hz h, ix_9]
  rw [vK_6_2]
  rfl
theorem push_eq {σ : St} {v : Int32} (h : XX σ) (hv : wd v) : m_push (vK σ) v = vK (k_push σ v) ∧ XX (k_push σ v) := by
  obtain ⟨hJ, hA, hf⟩ := h
  by_cases h0 : σ 6 5 = 0
  · have hx : XX (up2 σ 6 1 ((σ 6 1 - 1) &&& 65535)) := ⟨JJ_6_1 hJ (wd_and _), hA, hf⟩
    rw [m_push_c (JJ_zo hJ) h0, k_push_c h0]
    exact ⟨write_eq hx.1.1 (JJ_zo hx.1) hx.2.2 hv, XX_write hx hv⟩
  · have hx : XX (up2 σ 6 2 ((σ 6 2 - 1) &&& 65535)) := ⟨JJ_6_2 hJ (wd_and _), hA, hf⟩
    rw [m_push_o (JJ_zo hJ) h0, k_push_o h0]
    exact ⟨write_eq hx.1.1 (JJ_zo hx.1) hx.2.2 hv, XX_write hx hv⟩
-- an instruction that has failed: all but the present registers agree
def DD (f : Int32) (σ τ : St) : Prop := σ 0 14 = f ∧ τ 0 = v0 σ (σ 7 6) ∧ τ 1 = σ 1 ∧ τ 2 = σ 3 ∧ τ 3 = σ 4 ∧ τ 4 = σ 5 ∧ τ 6 = rg (σ 7) (σ 9) ∧ (∀ k, 12 ≤ k → τ 5 k = 0) ∧ ∀ c, τ (c + 7) = fun _ => 0
theorem rg_12 {o r : Nat → Int32} {k : Nat} (h : 12 ≤ k) : rg o r k = 0 := by
  unfold rg
  rw [if_neg (by omega), if_neg (by omega), if_neg (by omega), if_neg (by omega), if_neg (by omega), if_neg (by omega)]
theorem DD_of {σ : St} (hA : AE σ) : DD (σ 0 14) σ (vK σ) := by
  refine ⟨rfl, ?_, rfl, rfl, rfl, rfl, rfl, fun k hk => rg_12 hk, fun c => rfl⟩
  show v0 σ (σ 6 6) = v0 σ (σ 7 6)
  rw [hA]
theorem dk6 {f : Int32} {σ τ : St} {k : Nat} {v : Int32} (h : DD f σ τ) : DD f (up2 σ 6 k v) τ := h
theorem dk8 {f : Int32} {σ τ : St} {k : Nat} {v : Int32} (h : DD f σ τ) : DD f (up2 σ 8 k v) τ := h
theorem dk14 {f : Int32} {σ τ : St} (h : DD f σ τ) : DD f (up2 σ 0 14 f) τ := by rw [up2_same h.1]; exact h
theorem dm5 {f : Int32} {σ τ : St} {k : Nat} {v : Int32} (hk : k < 12) (h : DD f σ τ) : DD f σ (up2 τ 5 k v) := by
  obtain ⟨h1, h2, h3, h4, h5, h6, h7, h8, h9⟩ := h
  refine ⟨h1, h2, h3, h4, h5, h6, h7, fun j hj => ?_, h9⟩
  show upd (τ 5) k v j = 0
  unfold upd
  rw [if_neg (by omega)]
  exact h8 j hj
theorem DD_f {f : Int32} {σ τ : St} (h : DD f σ τ) : τ 0 14 = f := by
  rw [h.2.1]
  exact h.1
def MM (σ τ : St) : Prop := (σ 0 14 = 0 ∧ τ = vK σ ∧ AE σ) ∨ DD 2 σ τ
theorem mm_r {σ τ : St} {k : Nat} {v v' : Int32} (hk : k < 7) (h : MM σ τ) (hv : σ 0 14 = 0 → v' = v) : MM (up2 σ 8 k v) (up2 τ 5 k v') := by
  rcases h with ⟨h1, rfl, h3⟩ | h
  · rw [hv h1, ← vK_8 hk]
    exact Or.inl ⟨h1, rfl, h3⟩
  · exact Or.inr (dm5 (by omega) (dk8 h))
theorem mm_z {σ τ : St} {v v' : Int32} (h : MM σ τ) (hv : σ 0 14 = 0 → v' = v) : MM (up2 σ 6 4 v) (up2 τ 5 10 v') := by
  rcases h with ⟨h1, rfl, h3⟩ | h
  · rw [hv h1, ← vK_6_4]
    exact Or.inl ⟨h1, rfl, h3⟩
  · exact Or.inr (dm5 (by omega) (dk6 h))
theorem mm_pc {σ τ : St} {v v' : Int32} (h : MM σ τ) (hv : σ 0 14 = 0 → v' = v) : MM (up2 σ 6 3 v) (up2 τ 5 7 v') := by
  rcases h with ⟨h1, rfl, h3⟩ | h
  · rw [hv h1, ← vK_6_3]
    exact Or.inl ⟨h1, rfl, h3⟩
  · exact Or.inr (dm5 (by omega) (dk6 h))
theorem mm_o {σ τ : St} {v : Int32} (h : MM σ τ) : MM (up2 σ 6 5 v) (up2 τ 5 11 v) := by
  rcases h with ⟨h1, rfl, h3⟩ | h
  · rw [← vK_6_5]
    exact Or.inl ⟨h1, rfl, h3⟩
  · exact Or.inr (dm5 (by omega) (dk6 h))
theorem mm_f {σ τ : St} (h : MM σ τ) : MM (up2 σ 0 14 2) (m_speak τ 2) := by
  rcases h with ⟨h1, rfl, h3⟩ | h
  · rw [spk (show vK σ 0 14 = 0 from h1), ← vK_0_14]
    exact Or.inr (DD_of (σ := up2 σ 0 14 2) h3)
  · rw [spk_n (by rw [DD_f h]; decide)]
    exact Or.inr (dk14 h)
theorem k_pop_c {σ : St} (h : σ 6 5 = 0) : k_pop σ = (up2 σ 6 1 ((σ 6 1 + 1) &&& 65535), σ 1 (ix (σ 6 1 &&& 255))) := by
  have hm : mayP (up2 σ 6 1 ((σ 6 1 + 1) &&& 65535)) (σ 6 1) := Or.inl h
  unfold k_pop k_stack k_stack_18 k_setStack k_setStack_20
  rw [if_pos h]
  simp only [bd2, bd]
  rw [if_pos h, k_read_t hm]
  rfl
theorem k_pop_o {σ : St} (h : ¬ σ 6 5 = 0) : k_pop σ = k_read (up2 σ 6 2 ((σ 6 2 + 1) &&& 65535)) (σ 6 2) := by
  unfold k_pop k_stack k_stack_18 k_setStack k_setStack_20
  rw [if_neg h]
  simp only [bd2, bd]
  rw [if_neg h]
theorem m_pop_c {σ : St} (hk : kd σ) (hz : zb (σ 6 5)) (hf : σ 0 14 = 0) (h : σ 6 5 = 0) : m_pop (vK σ) = (vK (up2 σ 6 1 ((σ 6 1 + 1) &&& 65535)), σ 1 (ix (σ 6 1 &&& 255))) := by
  have hm : mayP σ (σ 6 1) := Or.inl h
  unfold m_pop
  rw [if_pos (show vK σ 0 14 = 0 from hf)]
  simp only [bd2, bd, m_stack_c hz h, ix_8]
  rw [show vK σ 5 8 = σ 6 1 from rfl, m_read_t hk hz hm, vK_6_1]
  rfl
theorem m_pop_t {σ : St} (hk : kd σ) (hz : zb (σ 6 5)) (hf : σ 0 14 = 0) (h : ¬ σ 6 5 = 0) (hm : mayP σ (σ 6 2)) : m_pop (vK σ) = (vK (up2 σ 6 2 ((σ 6 2 + 1) &&& 65535)), σ 1 (ix (σ 6 2 &&& 255))) := by
  unfold m_pop
  rw [if_pos (show vK σ 0 14 = 0 from hf)]
  simp only [bd2, bd, m_stack_o hz h, ix_9]
  rw [show vK σ 5 9 = σ 6 2 from rfl, m_read_t hk hz hm, vK_6_2]
  rfl
theorem m_pop_f {σ : St} (hk : kd σ) (hz : zb (σ 6 5)) (hf : σ 0 14 = 0) (h : ¬ σ 6 5 = 0) (hm : ¬ mayP σ (σ 6 2)) : m_pop (vK σ) = (up2 (vK (up2 σ 0 14 2)) 5 9 ((σ 6 2 + 1) &&& 65535), σ 1 (ix (σ 6 2 &&& 255))) := by
  unfold m_pop
  rw [if_pos (show vK σ 0 14 = 0 from hf)]
  simp only [bd2, bd, m_stack_o hz h, ix_9]
  rw [show vK σ 5 9 = σ 6 2 from rfl, m_read_f hk hz hf hm]
  rfl
theorem m_pop_d {τ : St} (hf : ¬ τ 0 14 = 0) : m_pop τ = (τ, 0) := by
  unfold m_pop
  rw [if_neg hf]
theorem JJ_pop {σ : St} (h : JJ σ) : JJ (k_pop σ).1 ∧ wd (k_pop σ).2 := by
  by_cases h0 : σ 6 5 = 0
  · rw [k_pop_c h0]
    exact ⟨JJ_6_1 h (wd_and _), JJ_w h _⟩
  · rw [k_pop_o h0]
    have h1 : JJ (up2 σ 6 2 ((σ 6 2 + 1) &&& 65535)) := JJ_6_2 h (wd_and _)
    by_cases hm : mayP (up2 σ 6 2 ((σ 6 2 + 1) &&& 65535)) (σ 6 2)
    · rw [k_read_t hm]
      exact ⟨h1, JJ_w h _⟩
    · rw [k_read_f hm]
      exact ⟨JJ_0 h1, show wd 0 by decide⟩
theorem mm_pop {σ τ : St} (hJ : JJ σ) (h : MM σ τ) : MM (k_pop σ).1 (m_pop τ).1 ∧ ((k_pop σ).1 0 14 = 0 → (m_pop τ).2 = (k_pop σ).2) := by
  rcases h with ⟨h1, rfl, h3⟩ | h
  · by_cases h0 : σ 6 5 = 0
    · rw [k_pop_c h0, m_pop_c hJ.1 (JJ_zo hJ) h1 h0]
      exact ⟨Or.inl ⟨h1, rfl, h3⟩, fun _ => rfl⟩
    · rw [k_pop_o h0]
      by_cases hm : mayP σ (σ 6 2)
      · rw [k_read_t (σ := up2 σ 6 2 ((σ 6 2 + 1) &&& 65535)) hm, m_pop_t hJ.1 (JJ_zo hJ) h1 h0 hm]
        exact ⟨Or.inl ⟨h1, rfl, h3⟩, fun _ => rfl⟩
      · rw [k_read_f (σ := up2 σ 6 2 ((σ 6 2 + 1) &&& 65535)) hm, m_pop_f hJ.1 (JJ_zo hJ) h1 h0 hm]
        refine ⟨Or.inr (dm5 (by omega) ?_), fun z => absurd z (show ¬ (2 : Int32) = 0 by decide)⟩
        have hd : DD 2 (up2 σ 0 14 2) (vK (up2 σ 0 14 2)) := DD_of (σ := up2 σ 0 14 2) h3
        exact hd
  · have hn : ¬ τ 0 14 = 0 := by rw [DD_f h]; decide
    rw [m_pop_d hn]
    by_cases h0 : σ 6 5 = 0
    · rw [k_pop_c h0]
      exact ⟨Or.inr (dk6 h), fun z => absurd (h.1.symm.trans z) (by decide)⟩
    · rw [k_pop_o h0]
      by_cases hm : mayP (up2 σ 6 2 ((σ 6 2 + 1) &&& 65535)) (σ 6 2)
      · rw [k_read_t hm]
        exact ⟨Or.inr (dk6 h), fun z => absurd (h.1.symm.trans z) (by decide)⟩
      · rw [k_read_f hm]
        exact ⟨Or.inr (dk14 (dk6 h)), fun z => absurd z (show ¬ (2 : Int32) = 0 by decide)⟩
