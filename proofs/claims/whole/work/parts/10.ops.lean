-- an instruction behind its fetch
def kQ (σ : St) (w : Int32) : St := bd (k_goTo σ ((σ 6 3) + 1)) fun σ11 => if 6 < (w >>> ((12 : Int32) &&& 31)) then k_changeFlow σ11 w else k_moveData σ11 w
def kP (σ : St) (w : Int32) : St := bd2 (k_isUnknown σ w) fun σ15 v16 => if v16 = 0 then kQ σ15 w else up2 σ15 0 14 1
theorem kP_u {σ : St} {w : Int32} (h : k_isUnknown σ w = (σ, 1)) : kP σ w = up2 σ 0 14 1 := by
  unfold kP
  simp only [bd2, h]
  rw [if_neg (by decide)]
theorem kP_k {σ : St} {w : Int32} (h : k_isUnknown σ w = (σ, 0)) : kP σ w = kQ σ w := by
  unfold kP
  simp only [bd2, h]
  first | rw [if_pos trivial] | rw [if_pos rfl]
/-- an unknown instruction -/
theorem perf_u {σ τ : St} {w : Int32} (hJ : JJ σ) (hA : AE σ) (hf : σ 0 14 = 0) (hk : k_isUnknown σ w = (σ, 1)) (hm : τ = m_perform_94 (vK σ)) : FM (kP σ w) τ ∧ JJ (kP σ w) := by
  have e : m_perform_94 (vK σ) = vK (up2 σ 0 14 1) := by
    rw [vK_0_14]
    show m_speak (vK σ) 1 = _
    rw [spk (show vK σ 0 14 = 0 from hf)]
  rw [kP_u hk, hm, e]
  exact ⟨fm_1 hA, JJ_0 hJ⟩
theorem named_0 : named (ix 0) = 1 := by decide
theorem ns_0 {τ : St} {a b c : Int32} (ha : ¬ a = 7) : m_namesSeven τ 0 a b c = (τ, 0) := by
  simp (decide := true) [m_namesSeven, m_namesSeven_17, m_namesSeven_16, m_namesSeven_29, m_namesSeven_47, m_namesSeven_57, m_namesSeven_58, m_namesSeven_80, m_namesSeven_90, m_namesSeven_86, m_namesSeven_91, ha]
theorem nb_0 {τ : St} {a b c : Int32} (h : a = 7) : m_namesSeven τ 0 a b c = (τ, 1) := by
  simp (decide := true) [m_namesSeven, m_namesSeven_17, m_namesSeven_16, m_namesSeven_29, m_namesSeven_47, m_namesSeven_57, m_namesSeven_58, m_namesSeven_80, m_namesSeven_90, m_namesSeven_86, m_namesSeven_91, h]
theorem ku_0 {σ : St} {w : Int32} (ho : (w >>> ((12 : Int32) &&& 31)) = 0) (ha : ¬ ((w >>> ((9 : Int32) &&& 31)) &&& 7) = 7) : k_isUnknown σ w = (σ, 0) := by
  have ho2 : (w >>> ((12 : Int32) &&& 31)) &&& 15 = 0 := by rw [ho]; decide
  simp (decide := true) [k_isUnknown, k_isUnknown_38, k_isUnknown_36, k_isUnknown_62, k_isUnknown_80, k_isUnknown_97, k_isUnknown_101, k_isUnknown_102, ho2, named_0, ha]
theorem kb_0 {σ : St} {w : Int32} (ho : (w >>> ((12 : Int32) &&& 31)) = 0) (h : ((w >>> ((9 : Int32) &&& 31)) &&& 7) = 7) : k_isUnknown σ w = (σ, 1) := by
  have ho2 : (w >>> ((12 : Int32) &&& 31)) &&& 15 = 0 := by rw [ho]; decide
  have z : ((w >>> ((9 : Int32) &&& 31)) &&& 7) = 7 := h
  by_cases h0 : σ 6 5 = 0
  · simp (decide := true) [k_isUnknown, k_isUnknown_38, k_isUnknown_36, k_isUnknown_62, k_isUnknown_80, k_isUnknown_97, k_isUnknown_101, k_isUnknown_102, ho2, named_0, h0, z]
  · simp (decide := true) [k_isUnknown, k_isUnknown_38, k_isUnknown_36, k_isUnknown_62, k_isUnknown_80, k_isUnknown_97, k_isUnknown_101, k_isUnknown_102, ho2, named_0, h0, z]
theorem mp_0 (τ : St) {w : Int32} (ho : (w >>> ((12 : Int32) &&& 31)) = 0) : m_perform τ w = m_perform_68 τ w 0 ((w >>> ((9 : Int32) &&& 31)) &&& 7) ((w >>> ((6 : Int32) &&& 31)) &&& 7) ((w >>> ((3 : Int32) &&& 31)) &&& 7) (((τ 5 (ix 7)) + 1) &&& 255) 0 := by
  unfold m_perform m_perform_63
  rw [ho]
  rfl
theorem mb_0 {τ : St} {w n y : Int32} (h : ((w >>> ((9 : Int32) &&& 31)) &&& 7) = 7) : m_perform_68 τ w 0 ((w >>> ((9 : Int32) &&& 31)) &&& 7) ((w >>> ((6 : Int32) &&& 31)) &&& 7) ((w >>> ((3 : Int32) &&& 31)) &&& 7) n y = m_perform_94 τ := by
  unfold m_perform_68
  simp only [bd2, nb_0 h]
  rw [if_neg (by decide)]
theorem mg_0 {σ : St} {w n : Int32} (ha : ¬ ((w >>> ((9 : Int32) &&& 31)) &&& 7) = 7) : m_perform_68 (vK σ) w 0 ((w >>> ((9 : Int32) &&& 31)) &&& 7) ((w >>> ((6 : Int32) &&& 31)) &&& 7) ((w >>> ((3 : Int32) &&& 31)) &&& 7) n 0 = m_perform_100 (vK σ) w 0 ((w >>> ((9 : Int32) &&& 31)) &&& 7) ((w >>> ((6 : Int32) &&& 31)) &&& 7) ((w >>> ((3 : Int32) &&& 31)) &&& 7) n := by
  unfold m_perform_68
  simp only [bd2, ns_0 ha]
  first | rw [if_pos trivial, if_pos trivial] | rw [if_pos rfl, if_pos rfl]
theorem named_1 : named (ix 1) = 7 := by decide
theorem ns_1 {τ : St} {a b c : Int32} (ha : ¬ a = 7) (hb : ¬ b = 7) (hc : ¬ c = 7) : m_namesSeven τ 1 a b c = (τ, 0) := by
  simp (decide := true) [m_namesSeven, m_namesSeven_17, m_namesSeven_16, m_namesSeven_29, m_namesSeven_47, m_namesSeven_57, m_namesSeven_58, m_namesSeven_80, m_namesSeven_90, m_namesSeven_86, m_namesSeven_91, ha, hb, hc]
theorem nb_1 {τ : St} {a b c : Int32} (h : a = 7 ∨ b = 7 ∨ c = 7) : m_namesSeven τ 1 a b c = (τ, 1) := by
  by_cases ha : a = 7
  · simp (decide := true) [m_namesSeven, m_namesSeven_17, m_namesSeven_16, m_namesSeven_29, m_namesSeven_47, m_namesSeven_57, m_namesSeven_58, m_namesSeven_80, m_namesSeven_90, m_namesSeven_86, m_namesSeven_91, ha]
  ·
    by_cases hb : b = 7
    · simp (decide := true) [m_namesSeven, m_namesSeven_17, m_namesSeven_16, m_namesSeven_29, m_namesSeven_47, m_namesSeven_57, m_namesSeven_58, m_namesSeven_80, m_namesSeven_90, m_namesSeven_86, m_namesSeven_91, ha, hb]
    ·
      have z : c = 7 := by simpa [ha, hb] using h
      simp (decide := true) [m_namesSeven, m_namesSeven_17, m_namesSeven_16, m_namesSeven_29, m_namesSeven_47, m_namesSeven_57, m_namesSeven_58, m_namesSeven_80, m_namesSeven_90, m_namesSeven_86, m_namesSeven_91, z, ha, hb]
theorem ku_1 {σ : St} {w : Int32} (ho : (w >>> ((12 : Int32) &&& 31)) = 1) (ha : ¬ ((w >>> ((9 : Int32) &&& 31)) &&& 7) = 7) (hb : ¬ ((w >>> ((6 : Int32) &&& 31)) &&& 7) = 7) (hc : ¬ ((w >>> ((3 : Int32) &&& 31)) &&& 7) = 7) : k_isUnknown σ w = (σ, 0) := by
  have ho2 : (w >>> ((12 : Int32) &&& 31)) &&& 15 = 1 := by rw [ho]; decide
  simp (decide := true) [k_isUnknown, k_isUnknown_38, k_isUnknown_36, k_isUnknown_62, k_isUnknown_80, k_isUnknown_97, k_isUnknown_101, k_isUnknown_102, ho2, named_1, ha, hb, hc]
theorem kb_1 {σ : St} {w : Int32} (ho : (w >>> ((12 : Int32) &&& 31)) = 1) (h : ((w >>> ((9 : Int32) &&& 31)) &&& 7) = 7 ∨ ((w >>> ((6 : Int32) &&& 31)) &&& 7) = 7 ∨ ((w >>> ((3 : Int32) &&& 31)) &&& 7) = 7) : k_isUnknown σ w = (σ, 1) := by
  have ho2 : (w >>> ((12 : Int32) &&& 31)) &&& 15 = 1 := by rw [ho]; decide
  by_cases ha : ((w >>> ((9 : Int32) &&& 31)) &&& 7) = 7
  · by_cases h0 : σ 6 5 = 0
    · simp (decide := true) [k_isUnknown, k_isUnknown_38, k_isUnknown_36, k_isUnknown_62, k_isUnknown_80, k_isUnknown_97, k_isUnknown_101, k_isUnknown_102, ho2, named_1, h0, ha]
    · simp (decide := true) [k_isUnknown, k_isUnknown_38, k_isUnknown_36, k_isUnknown_62, k_isUnknown_80, k_isUnknown_97, k_isUnknown_101, k_isUnknown_102, ho2, named_1, h0, ha]
  ·
    by_cases hb : ((w >>> ((6 : Int32) &&& 31)) &&& 7) = 7
    · by_cases h0 : σ 6 5 = 0
      · simp (decide := true) [k_isUnknown, k_isUnknown_38, k_isUnknown_36, k_isUnknown_62, k_isUnknown_80, k_isUnknown_97, k_isUnknown_101, k_isUnknown_102, ho2, named_1, h0, hb, ha]
      · simp (decide := true) [k_isUnknown, k_isUnknown_38, k_isUnknown_36, k_isUnknown_62, k_isUnknown_80, k_isUnknown_97, k_isUnknown_101, k_isUnknown_102, ho2, named_1, h0, hb, ha]
    ·
      have z : ((w >>> ((3 : Int32) &&& 31)) &&& 7) = 7 := (h.resolve_left ha).resolve_left hb
      by_cases h0 : σ 6 5 = 0
      · simp (decide := true) [k_isUnknown, k_isUnknown_38, k_isUnknown_36, k_isUnknown_62, k_isUnknown_80, k_isUnknown_97, k_isUnknown_101, k_isUnknown_102, ho2, named_1, h0, z, ha, hb]
      · simp (decide := true) [k_isUnknown, k_isUnknown_38, k_isUnknown_36, k_isUnknown_62, k_isUnknown_80, k_isUnknown_97, k_isUnknown_101, k_isUnknown_102, ho2, named_1, h0, z, ha, hb]
theorem mp_1 (τ : St) {w : Int32} (ho : (w >>> ((12 : Int32) &&& 31)) = 1) : m_perform τ w = m_perform_68 τ w 1 ((w >>> ((9 : Int32) &&& 31)) &&& 7) ((w >>> ((6 : Int32) &&& 31)) &&& 7) ((w >>> ((3 : Int32) &&& 31)) &&& 7) (((τ 5 (ix 7)) + 1) &&& 255) 0 := by
  unfold m_perform m_perform_63
  rw [ho]
  rfl
theorem mb_1 {τ : St} {w n y : Int32} (h : ((w >>> ((9 : Int32) &&& 31)) &&& 7) = 7 ∨ ((w >>> ((6 : Int32) &&& 31)) &&& 7) = 7 ∨ ((w >>> ((3 : Int32) &&& 31)) &&& 7) = 7) : m_perform_68 τ w 1 ((w >>> ((9 : Int32) &&& 31)) &&& 7) ((w >>> ((6 : Int32) &&& 31)) &&& 7) ((w >>> ((3 : Int32) &&& 31)) &&& 7) n y = m_perform_94 τ := by
  unfold m_perform_68
  simp only [bd2, nb_1 h]
  rw [if_neg (by decide)]
theorem mg_1 {σ : St} {w n : Int32} (ha : ¬ ((w >>> ((9 : Int32) &&& 31)) &&& 7) = 7) (hb : ¬ ((w >>> ((6 : Int32) &&& 31)) &&& 7) = 7) (hc : ¬ ((w >>> ((3 : Int32) &&& 31)) &&& 7) = 7) : m_perform_68 (vK σ) w 1 ((w >>> ((9 : Int32) &&& 31)) &&& 7) ((w >>> ((6 : Int32) &&& 31)) &&& 7) ((w >>> ((3 : Int32) &&& 31)) &&& 7) n 0 = m_perform_100 (vK σ) w 1 ((w >>> ((9 : Int32) &&& 31)) &&& 7) ((w >>> ((6 : Int32) &&& 31)) &&& 7) ((w >>> ((3 : Int32) &&& 31)) &&& 7) n := by
  unfold m_perform_68
  simp only [bd2, ns_1 ha hb hc]
  first | rw [if_pos trivial, if_pos trivial] | rw [if_pos rfl, if_pos rfl]
theorem named_2 : named (ix 2) = 7 := by decide
theorem ns_2 {τ : St} {a b c : Int32} (ha : ¬ a = 7) (hb : ¬ b = 7) (hc : ¬ c = 7) : m_namesSeven τ 2 a b c = (τ, 0) := by
  simp (decide := true) [m_namesSeven, m_namesSeven_17, m_namesSeven_16, m_namesSeven_29, m_namesSeven_47, m_namesSeven_57, m_namesSeven_58, m_namesSeven_80, m_namesSeven_90, m_namesSeven_86, m_namesSeven_91, ha, hb, hc]
theorem nb_2 {τ : St} {a b c : Int32} (h : a = 7 ∨ b = 7 ∨ c = 7) : m_namesSeven τ 2 a b c = (τ, 1) := by
  by_cases ha : a = 7
  · simp (decide := true) [m_namesSeven, m_namesSeven_17, m_namesSeven_16, m_namesSeven_29, m_namesSeven_47, m_namesSeven_57, m_namesSeven_58, m_namesSeven_80, m_namesSeven_90, m_namesSeven_86, m_namesSeven_91, ha]
  ·
    by_cases hb : b = 7
    · simp (decide := true) [m_namesSeven, m_namesSeven_17, m_namesSeven_16, m_namesSeven_29, m_namesSeven_47, m_namesSeven_57, m_namesSeven_58, m_namesSeven_80, m_namesSeven_90, m_namesSeven_86, m_namesSeven_91, ha, hb]
    ·
      have z : c = 7 := by simpa [ha, hb] using h
      simp (decide := true) [m_namesSeven, m_namesSeven_17, m_namesSeven_16, m_namesSeven_29, m_namesSeven_47, m_namesSeven_57, m_namesSeven_58, m_namesSeven_80, m_namesSeven_90, m_namesSeven_86, m_namesSeven_91, z, ha, hb]
theorem ku_2 {σ : St} {w : Int32} (ho : (w >>> ((12 : Int32) &&& 31)) = 2) (ha : ¬ ((w >>> ((9 : Int32) &&& 31)) &&& 7) = 7) (hb : ¬ ((w >>> ((6 : Int32) &&& 31)) &&& 7) = 7) (hc : ¬ ((w >>> ((3 : Int32) &&& 31)) &&& 7) = 7) : k_isUnknown σ w = (σ, 0) := by
  have ho2 : (w >>> ((12 : Int32) &&& 31)) &&& 15 = 2 := by rw [ho]; decide
  simp (decide := true) [k_isUnknown, k_isUnknown_38, k_isUnknown_36, k_isUnknown_62, k_isUnknown_80, k_isUnknown_97, k_isUnknown_101, k_isUnknown_102, ho2, named_2, ha, hb, hc]
theorem kb_2 {σ : St} {w : Int32} (ho : (w >>> ((12 : Int32) &&& 31)) = 2) (h : ((w >>> ((9 : Int32) &&& 31)) &&& 7) = 7 ∨ ((w >>> ((6 : Int32) &&& 31)) &&& 7) = 7 ∨ ((w >>> ((3 : Int32) &&& 31)) &&& 7) = 7) : k_isUnknown σ w = (σ, 1) := by
  have ho2 : (w >>> ((12 : Int32) &&& 31)) &&& 15 = 2 := by rw [ho]; decide
  by_cases ha : ((w >>> ((9 : Int32) &&& 31)) &&& 7) = 7
  · by_cases h0 : σ 6 5 = 0
    · simp (decide := true) [k_isUnknown, k_isUnknown_38, k_isUnknown_36, k_isUnknown_62, k_isUnknown_80, k_isUnknown_97, k_isUnknown_101, k_isUnknown_102, ho2, named_2, h0, ha]
    · simp (decide := true) [k_isUnknown, k_isUnknown_38, k_isUnknown_36, k_isUnknown_62, k_isUnknown_80, k_isUnknown_97, k_isUnknown_101, k_isUnknown_102, ho2, named_2, h0, ha]
  ·
    by_cases hb : ((w >>> ((6 : Int32) &&& 31)) &&& 7) = 7
    · by_cases h0 : σ 6 5 = 0
      · simp (decide := true) [k_isUnknown, k_isUnknown_38, k_isUnknown_36, k_isUnknown_62, k_isUnknown_80, k_isUnknown_97, k_isUnknown_101, k_isUnknown_102, ho2, named_2, h0, hb, ha]
      · simp (decide := true) [k_isUnknown, k_isUnknown_38, k_isUnknown_36, k_isUnknown_62, k_isUnknown_80, k_isUnknown_97, k_isUnknown_101, k_isUnknown_102, ho2, named_2, h0, hb, ha]
    ·
      have z : ((w >>> ((3 : Int32) &&& 31)) &&& 7) = 7 := (h.resolve_left ha).resolve_left hb
      by_cases h0 : σ 6 5 = 0
      · simp (decide := true) [k_isUnknown, k_isUnknown_38, k_isUnknown_36, k_isUnknown_62, k_isUnknown_80, k_isUnknown_97, k_isUnknown_101, k_isUnknown_102, ho2, named_2, h0, z, ha, hb]
      · simp (decide := true) [k_isUnknown, k_isUnknown_38, k_isUnknown_36, k_isUnknown_62, k_isUnknown_80, k_isUnknown_97, k_isUnknown_101, k_isUnknown_102, ho2, named_2, h0, z, ha, hb]
theorem mp_2 (τ : St) {w : Int32} (ho : (w >>> ((12 : Int32) &&& 31)) = 2) : m_perform τ w = m_perform_68 τ w 2 ((w >>> ((9 : Int32) &&& 31)) &&& 7) ((w >>> ((6 : Int32) &&& 31)) &&& 7) ((w >>> ((3 : Int32) &&& 31)) &&& 7) (((τ 5 (ix 7)) + 1) &&& 255) 0 := by
  unfold m_perform m_perform_63
  rw [ho]
  rfl
theorem mb_2 {τ : St} {w n y : Int32} (h : ((w >>> ((9 : Int32) &&& 31)) &&& 7) = 7 ∨ ((w >>> ((6 : Int32) &&& 31)) &&& 7) = 7 ∨ ((w >>> ((3 : Int32) &&& 31)) &&& 7) = 7) : m_perform_68 τ w 2 ((w >>> ((9 : Int32) &&& 31)) &&& 7) ((w >>> ((6 : Int32) &&& 31)) &&& 7) ((w >>> ((3 : Int32) &&& 31)) &&& 7) n y = m_perform_94 τ := by
  unfold m_perform_68
  simp only [bd2, nb_2 h]
  rw [if_neg (by decide)]
theorem mg_2 {σ : St} {w n : Int32} (ha : ¬ ((w >>> ((9 : Int32) &&& 31)) &&& 7) = 7) (hb : ¬ ((w >>> ((6 : Int32) &&& 31)) &&& 7) = 7) (hc : ¬ ((w >>> ((3 : Int32) &&& 31)) &&& 7) = 7) : m_perform_68 (vK σ) w 2 ((w >>> ((9 : Int32) &&& 31)) &&& 7) ((w >>> ((6 : Int32) &&& 31)) &&& 7) ((w >>> ((3 : Int32) &&& 31)) &&& 7) n 0 = m_perform_100 (vK σ) w 2 ((w >>> ((9 : Int32) &&& 31)) &&& 7) ((w >>> ((6 : Int32) &&& 31)) &&& 7) ((w >>> ((3 : Int32) &&& 31)) &&& 7) n := by
  unfold m_perform_68
  simp only [bd2, ns_2 ha hb hc]
  first | rw [if_pos trivial, if_pos trivial] | rw [if_pos rfl, if_pos rfl]
theorem named_3 : named (ix 3) = 3 := by decide
theorem ns_3 {τ : St} {a b c : Int32} (ha : ¬ a = 7) (hb : ¬ b = 7) : m_namesSeven τ 3 a b c = (τ, 0) := by
  simp (decide := true) [m_namesSeven, m_namesSeven_17, m_namesSeven_16, m_namesSeven_29, m_namesSeven_47, m_namesSeven_57, m_namesSeven_58, m_namesSeven_80, m_namesSeven_90, m_namesSeven_86, m_namesSeven_91, ha, hb]
theorem nb_3 {τ : St} {a b c : Int32} (h : a = 7 ∨ b = 7) : m_namesSeven τ 3 a b c = (τ, 1) := by
  by_cases ha : a = 7
  · simp (decide := true) [m_namesSeven, m_namesSeven_17, m_namesSeven_16, m_namesSeven_29, m_namesSeven_47, m_namesSeven_57, m_namesSeven_58, m_namesSeven_80, m_namesSeven_90, m_namesSeven_86, m_namesSeven_91, ha]
  ·
    have z : b = 7 := by simpa [ha] using h
    simp (decide := true) [m_namesSeven, m_namesSeven_17, m_namesSeven_16, m_namesSeven_29, m_namesSeven_47, m_namesSeven_57, m_namesSeven_58, m_namesSeven_80, m_namesSeven_90, m_namesSeven_86, m_namesSeven_91, z, ha]
theorem ku_3 {σ : St} {w : Int32} (ho : (w >>> ((12 : Int32) &&& 31)) = 3) (ha : ¬ ((w >>> ((9 : Int32) &&& 31)) &&& 7) = 7) (hb : ¬ ((w >>> ((6 : Int32) &&& 31)) &&& 7) = 7) : k_isUnknown σ w = (σ, 0) := by
  have ho2 : (w >>> ((12 : Int32) &&& 31)) &&& 15 = 3 := by rw [ho]; decide
  simp (decide := true) [k_isUnknown, k_isUnknown_38, k_isUnknown_36, k_isUnknown_62, k_isUnknown_80, k_isUnknown_97, k_isUnknown_101, k_isUnknown_102, ho2, named_3, ha, hb]
theorem kb_3 {σ : St} {w : Int32} (ho : (w >>> ((12 : Int32) &&& 31)) = 3) (h : ((w >>> ((9 : Int32) &&& 31)) &&& 7) = 7 ∨ ((w >>> ((6 : Int32) &&& 31)) &&& 7) = 7) : k_isUnknown σ w = (σ, 1) := by
  have ho2 : (w >>> ((12 : Int32) &&& 31)) &&& 15 = 3 := by rw [ho]; decide
  by_cases ha : ((w >>> ((9 : Int32) &&& 31)) &&& 7) = 7
  · by_cases h0 : σ 6 5 = 0
    · simp (decide := true) [k_isUnknown, k_isUnknown_38, k_isUnknown_36, k_isUnknown_62, k_isUnknown_80, k_isUnknown_97, k_isUnknown_101, k_isUnknown_102, ho2, named_3, h0, ha]
    · simp (decide := true) [k_isUnknown, k_isUnknown_38, k_isUnknown_36, k_isUnknown_62, k_isUnknown_80, k_isUnknown_97, k_isUnknown_101, k_isUnknown_102, ho2, named_3, h0, ha]
  ·
    have z : ((w >>> ((6 : Int32) &&& 31)) &&& 7) = 7 := h.resolve_left ha
    by_cases h0 : σ 6 5 = 0
    · simp (decide := true) [k_isUnknown, k_isUnknown_38, k_isUnknown_36, k_isUnknown_62, k_isUnknown_80, k_isUnknown_97, k_isUnknown_101, k_isUnknown_102, ho2, named_3, h0, z, ha]
    · simp (decide := true) [k_isUnknown, k_isUnknown_38, k_isUnknown_36, k_isUnknown_62, k_isUnknown_80, k_isUnknown_97, k_isUnknown_101, k_isUnknown_102, ho2, named_3, h0, z, ha]
theorem mp_3 (τ : St) {w : Int32} (ho : (w >>> ((12 : Int32) &&& 31)) = 3) : m_perform τ w = m_perform_68 τ w 3 ((w >>> ((9 : Int32) &&& 31)) &&& 7) ((w >>> ((6 : Int32) &&& 31)) &&& 7) ((w >>> ((3 : Int32) &&& 31)) &&& 7) (((τ 5 (ix 7)) + 1) &&& 255) 0 := by
  unfold m_perform m_perform_63
  rw [ho]
  rfl
theorem mb_3 {τ : St} {w n y : Int32} (h : ((w >>> ((9 : Int32) &&& 31)) &&& 7) = 7 ∨ ((w >>> ((6 : Int32) &&& 31)) &&& 7) = 7) : m_perform_68 τ w 3 ((w >>> ((9 : Int32) &&& 31)) &&& 7) ((w >>> ((6 : Int32) &&& 31)) &&& 7) ((w >>> ((3 : Int32) &&& 31)) &&& 7) n y = m_perform_94 τ := by
  unfold m_perform_68
  simp only [bd2, nb_3 h]
  rw [if_neg (by decide)]
theorem mg_3 {σ : St} {w n : Int32} (ha : ¬ ((w >>> ((9 : Int32) &&& 31)) &&& 7) = 7) (hb : ¬ ((w >>> ((6 : Int32) &&& 31)) &&& 7) = 7) : m_perform_68 (vK σ) w 3 ((w >>> ((9 : Int32) &&& 31)) &&& 7) ((w >>> ((6 : Int32) &&& 31)) &&& 7) ((w >>> ((3 : Int32) &&& 31)) &&& 7) n 0 = m_perform_100 (vK σ) w 3 ((w >>> ((9 : Int32) &&& 31)) &&& 7) ((w >>> ((6 : Int32) &&& 31)) &&& 7) ((w >>> ((3 : Int32) &&& 31)) &&& 7) n := by
  unfold m_perform_68
  simp only [bd2, ns_3 ha hb]
  first | rw [if_pos trivial, if_pos trivial] | rw [if_pos rfl, if_pos rfl]
theorem named_4 : named (ix 4) = 3 := by decide
theorem ns_4 {τ : St} {a b c : Int32} (ha : ¬ a = 7) (hb : ¬ b = 7) : m_namesSeven τ 4 a b c = (τ, 0) := by
  simp (decide := true) [m_namesSeven, m_namesSeven_17, m_namesSeven_16, m_namesSeven_29, m_namesSeven_47, m_namesSeven_57, m_namesSeven_58, m_namesSeven_80, m_namesSeven_90, m_namesSeven_86, m_namesSeven_91, ha, hb]
theorem nb_4 {τ : St} {a b c : Int32} (h : a = 7 ∨ b = 7) : m_namesSeven τ 4 a b c = (τ, 1) := by
  by_cases ha : a = 7
  · simp (decide := true) [m_namesSeven, m_namesSeven_17, m_namesSeven_16, m_namesSeven_29, m_namesSeven_47, m_namesSeven_57, m_namesSeven_58, m_namesSeven_80, m_namesSeven_90, m_namesSeven_86, m_namesSeven_91, ha]
  ·
    have z : b = 7 := by simpa [ha] using h
    simp (decide := true) [m_namesSeven, m_namesSeven_17, m_namesSeven_16, m_namesSeven_29, m_namesSeven_47, m_namesSeven_57, m_namesSeven_58, m_namesSeven_80, m_namesSeven_90, m_namesSeven_86, m_namesSeven_91, z, ha]
theorem ku_4 {σ : St} {w : Int32} (ho : (w >>> ((12 : Int32) &&& 31)) = 4) (ha : ¬ ((w >>> ((9 : Int32) &&& 31)) &&& 7) = 7) (hb : ¬ ((w >>> ((6 : Int32) &&& 31)) &&& 7) = 7) : k_isUnknown σ w = (σ, 0) := by
  have ho2 : (w >>> ((12 : Int32) &&& 31)) &&& 15 = 4 := by rw [ho]; decide
  simp (decide := true) [k_isUnknown, k_isUnknown_38, k_isUnknown_36, k_isUnknown_62, k_isUnknown_80, k_isUnknown_97, k_isUnknown_101, k_isUnknown_102, ho2, named_4, ha, hb]
theorem kb_4 {σ : St} {w : Int32} (ho : (w >>> ((12 : Int32) &&& 31)) = 4) (h : ((w >>> ((9 : Int32) &&& 31)) &&& 7) = 7 ∨ ((w >>> ((6 : Int32) &&& 31)) &&& 7) = 7) : k_isUnknown σ w = (σ, 1) := by
  have ho2 : (w >>> ((12 : Int32) &&& 31)) &&& 15 = 4 := by rw [ho]; decide
  by_cases ha : ((w >>> ((9 : Int32) &&& 31)) &&& 7) = 7
  · by_cases h0 : σ 6 5 = 0
    · simp (decide := true) [k_isUnknown, k_isUnknown_38, k_isUnknown_36, k_isUnknown_62, k_isUnknown_80, k_isUnknown_97, k_isUnknown_101, k_isUnknown_102, ho2, named_4, h0, ha]
    · simp (decide := true) [k_isUnknown, k_isUnknown_38, k_isUnknown_36, k_isUnknown_62, k_isUnknown_80, k_isUnknown_97, k_isUnknown_101, k_isUnknown_102, ho2, named_4, h0, ha]
  ·
    have z : ((w >>> ((6 : Int32) &&& 31)) &&& 7) = 7 := h.resolve_left ha
    by_cases h0 : σ 6 5 = 0
    · simp (decide := true) [k_isUnknown, k_isUnknown_38, k_isUnknown_36, k_isUnknown_62, k_isUnknown_80, k_isUnknown_97, k_isUnknown_101, k_isUnknown_102, ho2, named_4, h0, z, ha]
    · simp (decide := true) [k_isUnknown, k_isUnknown_38, k_isUnknown_36, k_isUnknown_62, k_isUnknown_80, k_isUnknown_97, k_isUnknown_101, k_isUnknown_102, ho2, named_4, h0, z, ha]
theorem mp_4 (τ : St) {w : Int32} (ho : (w >>> ((12 : Int32) &&& 31)) = 4) : m_perform τ w = m_perform_68 τ w 4 ((w >>> ((9 : Int32) &&& 31)) &&& 7) ((w >>> ((6 : Int32) &&& 31)) &&& 7) ((w >>> ((3 : Int32) &&& 31)) &&& 7) (((τ 5 (ix 7)) + 1) &&& 255) 0 := by
  unfold m_perform m_perform_63
  rw [ho]
  rfl
theorem mb_4 {τ : St} {w n y : Int32} (h : ((w >>> ((9 : Int32) &&& 31)) &&& 7) = 7 ∨ ((w >>> ((6 : Int32) &&& 31)) &&& 7) = 7) : m_perform_68 τ w 4 ((w >>> ((9 : Int32) &&& 31)) &&& 7) ((w >>> ((6 : Int32) &&& 31)) &&& 7) ((w >>> ((3 : Int32) &&& 31)) &&& 7) n y = m_perform_94 τ := by
  unfold m_perform_68
  simp only [bd2, nb_4 h]
  rw [if_neg (by decide)]
theorem mg_4 {σ : St} {w n : Int32} (ha : ¬ ((w >>> ((9 : Int32) &&& 31)) &&& 7) = 7) (hb : ¬ ((w >>> ((6 : Int32) &&& 31)) &&& 7) = 7) : m_perform_68 (vK σ) w 4 ((w >>> ((9 : Int32) &&& 31)) &&& 7) ((w >>> ((6 : Int32) &&& 31)) &&& 7) ((w >>> ((3 : Int32) &&& 31)) &&& 7) n 0 = m_perform_100 (vK σ) w 4 ((w >>> ((9 : Int32) &&& 31)) &&& 7) ((w >>> ((6 : Int32) &&& 31)) &&& 7) ((w >>> ((3 : Int32) &&& 31)) &&& 7) n := by
  unfold m_perform_68
  simp only [bd2, ns_4 ha hb]
  first | rw [if_pos trivial, if_pos trivial] | rw [if_pos rfl, if_pos rfl]
theorem named_5 : named (ix 5) = 1 := by decide
theorem ns_5 {τ : St} {a b c : Int32} (ha : ¬ a = 7) : m_namesSeven τ 5 a b c = (τ, 0) := by
  simp (decide := true) [m_namesSeven, m_namesSeven_17, m_namesSeven_16, m_namesSeven_29, m_namesSeven_47, m_namesSeven_57, m_namesSeven_58, m_namesSeven_80, m_namesSeven_90, m_namesSeven_86, m_namesSeven_91, ha]
theorem nb_5 {τ : St} {a b c : Int32} (h : a = 7) : m_namesSeven τ 5 a b c = (τ, 1) := by
  simp (decide := true) [m_namesSeven, m_namesSeven_17, m_namesSeven_16, m_namesSeven_29, m_namesSeven_47, m_namesSeven_57, m_namesSeven_58, m_namesSeven_80, m_namesSeven_90, m_namesSeven_86, m_namesSeven_91, h]
theorem ku_5 {σ : St} {w : Int32} (ho : (w >>> ((12 : Int32) &&& 31)) = 5) (ha : ¬ ((w >>> ((9 : Int32) &&& 31)) &&& 7) = 7) : k_isUnknown σ w = (σ, 0) := by
  have ho2 : (w >>> ((12 : Int32) &&& 31)) &&& 15 = 5 := by rw [ho]; decide
  simp (decide := true) [k_isUnknown, k_isUnknown_38, k_isUnknown_36, k_isUnknown_62, k_isUnknown_80, k_isUnknown_97, k_isUnknown_101, k_isUnknown_102, ho2, named_5, ha]
theorem kb_5 {σ : St} {w : Int32} (ho : (w >>> ((12 : Int32) &&& 31)) = 5) (h : ((w >>> ((9 : Int32) &&& 31)) &&& 7) = 7) : k_isUnknown σ w = (σ, 1) := by
  have ho2 : (w >>> ((12 : Int32) &&& 31)) &&& 15 = 5 := by rw [ho]; decide
  have z : ((w >>> ((9 : Int32) &&& 31)) &&& 7) = 7 := h
  by_cases h0 : σ 6 5 = 0
  · simp (decide := true) [k_isUnknown, k_isUnknown_38, k_isUnknown_36, k_isUnknown_62, k_isUnknown_80, k_isUnknown_97, k_isUnknown_101, k_isUnknown_102, ho2, named_5, h0, z]
  · simp (decide := true) [k_isUnknown, k_isUnknown_38, k_isUnknown_36, k_isUnknown_62, k_isUnknown_80, k_isUnknown_97, k_isUnknown_101, k_isUnknown_102, ho2, named_5, h0, z]
theorem mp_5 (τ : St) {w : Int32} (ho : (w >>> ((12 : Int32) &&& 31)) = 5) : m_perform τ w = m_perform_68 τ w 5 ((w >>> ((9 : Int32) &&& 31)) &&& 7) ((w >>> ((6 : Int32) &&& 31)) &&& 7) ((w >>> ((3 : Int32) &&& 31)) &&& 7) (((τ 5 (ix 7)) + 1) &&& 255) 0 := by
  unfold m_perform m_perform_63
  rw [ho]
  rfl
theorem mb_5 {τ : St} {w n y : Int32} (h : ((w >>> ((9 : Int32) &&& 31)) &&& 7) = 7) : m_perform_68 τ w 5 ((w >>> ((9 : Int32) &&& 31)) &&& 7) ((w >>> ((6 : Int32) &&& 31)) &&& 7) ((w >>> ((3 : Int32) &&& 31)) &&& 7) n y = m_perform_94 τ := by
  unfold m_perform_68
  simp only [bd2, nb_5 h]
  rw [if_neg (by decide)]
theorem mg_5 {σ : St} {w n : Int32} (ha : ¬ ((w >>> ((9 : Int32) &&& 31)) &&& 7) = 7) : m_perform_68 (vK σ) w 5 ((w >>> ((9 : Int32) &&& 31)) &&& 7) ((w >>> ((6 : Int32) &&& 31)) &&& 7) ((w >>> ((3 : Int32) &&& 31)) &&& 7) n 0 = m_perform_100 (vK σ) w 5 ((w >>> ((9 : Int32) &&& 31)) &&& 7) ((w >>> ((6 : Int32) &&& 31)) &&& 7) ((w >>> ((3 : Int32) &&& 31)) &&& 7) n := by
  unfold m_perform_68
  simp only [bd2, ns_5 ha]
  first | rw [if_pos trivial, if_pos trivial] | rw [if_pos rfl, if_pos rfl]
theorem named_6 : named (ix 6) = 1 := by decide
theorem ns_6 {τ : St} {a b c : Int32} (ha : ¬ a = 7) : m_namesSeven τ 6 a b c = (τ, 0) := by
  simp (decide := true) [m_namesSeven, m_namesSeven_17, m_namesSeven_16, m_namesSeven_29, m_namesSeven_47, m_namesSeven_57, m_namesSeven_58, m_namesSeven_80, m_namesSeven_90, m_namesSeven_86, m_namesSeven_91, ha]
theorem nb_6 {τ : St} {a b c : Int32} (h : a = 7) : m_namesSeven τ 6 a b c = (τ, 1) := by
  simp (decide := true) [m_namesSeven, m_namesSeven_17, m_namesSeven_16, m_namesSeven_29, m_namesSeven_47, m_namesSeven_57, m_namesSeven_58, m_namesSeven_80, m_namesSeven_90, m_namesSeven_86, m_namesSeven_91, h]
theorem ku_6 {σ : St} {w : Int32} (ho : (w >>> ((12 : Int32) &&& 31)) = 6) (ha : ¬ ((w >>> ((9 : Int32) &&& 31)) &&& 7) = 7) : k_isUnknown σ w = (σ, 0) := by
  have ho2 : (w >>> ((12 : Int32) &&& 31)) &&& 15 = 6 := by rw [ho]; decide
  simp (decide := true) [k_isUnknown, k_isUnknown_38, k_isUnknown_36, k_isUnknown_62, k_isUnknown_80, k_isUnknown_97, k_isUnknown_101, k_isUnknown_102, ho2, named_6, ha]
theorem kb_6 {σ : St} {w : Int32} (ho : (w >>> ((12 : Int32) &&& 31)) = 6) (h : ((w >>> ((9 : Int32) &&& 31)) &&& 7) = 7) : k_isUnknown σ w = (σ, 1) := by
  have ho2 : (w >>> ((12 : Int32) &&& 31)) &&& 15 = 6 := by rw [ho]; decide
  have z : ((w >>> ((9 : Int32) &&& 31)) &&& 7) = 7 := h
  by_cases h0 : σ 6 5 = 0
  · simp (decide := true) [k_isUnknown, k_isUnknown_38, k_isUnknown_36, k_isUnknown_62, k_isUnknown_80, k_isUnknown_97, k_isUnknown_101, k_isUnknown_102, ho2, named_6, h0, z]
  · simp (decide := true) [k_isUnknown, k_isUnknown_38, k_isUnknown_36, k_isUnknown_62, k_isUnknown_80, k_isUnknown_97, k_isUnknown_101, k_isUnknown_102, ho2, named_6, h0, z]
theorem mp_6 (τ : St) {w : Int32} (ho : (w >>> ((12 : Int32) &&& 31)) = 6) : m_perform τ w = m_perform_68 τ w 6 ((w >>> ((9 : Int32) &&& 31)) &&& 7) ((w >>> ((6 : Int32) &&& 31)) &&& 7) ((w >>> ((3 : Int32) &&& 31)) &&& 7) (((τ 5 (ix 7)) + 1) &&& 255) 0 := by
  unfold m_perform m_perform_63
  rw [ho]
  rfl
theorem mb_6 {τ : St} {w n y : Int32} (h : ((w >>> ((9 : Int32) &&& 31)) &&& 7) = 7) : m_perform_68 τ w 6 ((w >>> ((9 : Int32) &&& 31)) &&& 7) ((w >>> ((6 : Int32) &&& 31)) &&& 7) ((w >>> ((3 : Int32) &&& 31)) &&& 7) n y = m_perform_94 τ := by
  unfold m_perform_68
  simp only [bd2, nb_6 h]
  rw [if_neg (by decide)]
theorem mg_6 {σ : St} {w n : Int32} (ha : ¬ ((w >>> ((9 : Int32) &&& 31)) &&& 7) = 7) : m_perform_68 (vK σ) w 6 ((w >>> ((9 : Int32) &&& 31)) &&& 7) ((w >>> ((6 : Int32) &&& 31)) &&& 7) ((w >>> ((3 : Int32) &&& 31)) &&& 7) n 0 = m_perform_100 (vK σ) w 6 ((w >>> ((9 : Int32) &&& 31)) &&& 7) ((w >>> ((6 : Int32) &&& 31)) &&& 7) ((w >>> ((3 : Int32) &&& 31)) &&& 7) n := by
  unfold m_perform_68
  simp only [bd2, ns_6 ha]
  first | rw [if_pos trivial, if_pos trivial] | rw [if_pos rfl, if_pos rfl]
theorem named_7 : named (ix 7) = 0 := by decide
theorem ns_7 {τ : St} {a b c : Int32} : m_namesSeven τ 7 a b c = (τ, 0) := by
  simp (decide := true) [m_namesSeven, m_namesSeven_17, m_namesSeven_16, m_namesSeven_29, m_namesSeven_47, m_namesSeven_57, m_namesSeven_58, m_namesSeven_80, m_namesSeven_90, m_namesSeven_86, m_namesSeven_91]
theorem ku_7 {σ : St} {w : Int32} (ho : (w >>> ((12 : Int32) &&& 31)) = 7) : k_isUnknown σ w = (σ, 0) := by
  have ho2 : (w >>> ((12 : Int32) &&& 31)) &&& 15 = 7 := by rw [ho]; decide
  simp (decide := true) [k_isUnknown, k_isUnknown_38, k_isUnknown_36, k_isUnknown_62, k_isUnknown_80, k_isUnknown_97, k_isUnknown_101, k_isUnknown_102, ho2, named_7]
theorem mp_7 (τ : St) {w : Int32} (ho : (w >>> ((12 : Int32) &&& 31)) = 7) : m_perform τ w = m_perform_68 τ w 7 ((w >>> ((9 : Int32) &&& 31)) &&& 7) ((w >>> ((6 : Int32) &&& 31)) &&& 7) ((w >>> ((3 : Int32) &&& 31)) &&& 7) (((τ 5 (ix 7)) + 1) &&& 255) 0 := by
  unfold m_perform m_perform_63
  rw [ho]
  rfl
theorem mg_7 {σ : St} {w n : Int32} : m_perform_68 (vK σ) w 7 ((w >>> ((9 : Int32) &&& 31)) &&& 7) ((w >>> ((6 : Int32) &&& 31)) &&& 7) ((w >>> ((3 : Int32) &&& 31)) &&& 7) n 0 = m_perform_100 (vK σ) w 7 ((w >>> ((9 : Int32) &&& 31)) &&& 7) ((w >>> ((6 : Int32) &&& 31)) &&& 7) ((w >>> ((3 : Int32) &&& 31)) &&& 7) n := by
  unfold m_perform_68
  simp only [bd2, ns_7]
  first | rw [if_pos trivial, if_pos trivial] | rw [if_pos rfl, if_pos rfl]
theorem named_8 : named (ix 8) = 0 := by decide
theorem ns_8 {τ : St} {a b c : Int32} : m_namesSeven τ 8 a b c = (τ, 0) := by
  simp (decide := true) [m_namesSeven, m_namesSeven_17, m_namesSeven_16, m_namesSeven_29, m_namesSeven_47, m_namesSeven_57, m_namesSeven_58, m_namesSeven_80, m_namesSeven_90, m_namesSeven_86, m_namesSeven_91]
theorem ku_8 {σ : St} {w : Int32} (ho : (w >>> ((12 : Int32) &&& 31)) = 8) : k_isUnknown σ w = (σ, 0) := by
  have ho2 : (w >>> ((12 : Int32) &&& 31)) &&& 15 = 8 := by rw [ho]; decide
  simp (decide := true) [k_isUnknown, k_isUnknown_38, k_isUnknown_36, k_isUnknown_62, k_isUnknown_80, k_isUnknown_97, k_isUnknown_101, k_isUnknown_102, ho2, named_8]
theorem mp_8 (τ : St) {w : Int32} (ho : (w >>> ((12 : Int32) &&& 31)) = 8) : m_perform τ w = m_perform_68 τ w 8 ((w >>> ((9 : Int32) &&& 31)) &&& 7) ((w >>> ((6 : Int32) &&& 31)) &&& 7) ((w >>> ((3 : Int32) &&& 31)) &&& 7) (((τ 5 (ix 7)) + 1) &&& 255) 0 := by
  unfold m_perform m_perform_63
  rw [ho]
  rfl
theorem mg_8 {σ : St} {w n : Int32} : m_perform_68 (vK σ) w 8 ((w >>> ((9 : Int32) &&& 31)) &&& 7) ((w >>> ((6 : Int32) &&& 31)) &&& 7) ((w >>> ((3 : Int32) &&& 31)) &&& 7) n 0 = m_perform_100 (vK σ) w 8 ((w >>> ((9 : Int32) &&& 31)) &&& 7) ((w >>> ((6 : Int32) &&& 31)) &&& 7) ((w >>> ((3 : Int32) &&& 31)) &&& 7) n := by
  unfold m_perform_68
  simp only [bd2, ns_8]
  first | rw [if_pos trivial, if_pos trivial] | rw [if_pos rfl, if_pos rfl]
theorem named_9 : named (ix 9) = 2 := by decide
theorem ns_9 {τ : St} {a b c : Int32} (hb : ¬ b = 7) : m_namesSeven τ 9 a b c = (τ, 0) := by
  simp (decide := true) [m_namesSeven, m_namesSeven_17, m_namesSeven_16, m_namesSeven_29, m_namesSeven_47, m_namesSeven_57, m_namesSeven_58, m_namesSeven_80, m_namesSeven_90, m_namesSeven_86, m_namesSeven_91, hb]
theorem nb_9 {τ : St} {a b c : Int32} (h : b = 7) : m_namesSeven τ 9 a b c = (τ, 1) := by
  simp (decide := true) [m_namesSeven, m_namesSeven_17, m_namesSeven_16, m_namesSeven_29, m_namesSeven_47, m_namesSeven_57, m_namesSeven_58, m_namesSeven_80, m_namesSeven_90, m_namesSeven_86, m_namesSeven_91, h]
theorem ku_9 {σ : St} {w : Int32} (ho : (w >>> ((12 : Int32) &&& 31)) = 9) (hb : ¬ ((w >>> ((6 : Int32) &&& 31)) &&& 7) = 7) : k_isUnknown σ w = (σ, 0) := by
  have ho2 : (w >>> ((12 : Int32) &&& 31)) &&& 15 = 9 := by rw [ho]; decide
  simp (decide := true) [k_isUnknown, k_isUnknown_38, k_isUnknown_36, k_isUnknown_62, k_isUnknown_80, k_isUnknown_97, k_isUnknown_101, k_isUnknown_102, ho2, named_9, hb]
theorem kb_9 {σ : St} {w : Int32} (ho : (w >>> ((12 : Int32) &&& 31)) = 9) (h : ((w >>> ((6 : Int32) &&& 31)) &&& 7) = 7) : k_isUnknown σ w = (σ, 1) := by
  have ho2 : (w >>> ((12 : Int32) &&& 31)) &&& 15 = 9 := by rw [ho]; decide
  have z : ((w >>> ((6 : Int32) &&& 31)) &&& 7) = 7 := h
  by_cases h0 : σ 6 5 = 0
  · simp (decide := true) [k_isUnknown, k_isUnknown_38, k_isUnknown_36, k_isUnknown_62, k_isUnknown_80, k_isUnknown_97, k_isUnknown_101, k_isUnknown_102, ho2, named_9, h0, z]
  · simp (decide := true) [k_isUnknown, k_isUnknown_38, k_isUnknown_36, k_isUnknown_62, k_isUnknown_80, k_isUnknown_97, k_isUnknown_101, k_isUnknown_102, ho2, named_9, h0, z]
theorem mp_9 (τ : St) {w : Int32} (ho : (w >>> ((12 : Int32) &&& 31)) = 9) : m_perform τ w = m_perform_68 τ w 9 ((w >>> ((9 : Int32) &&& 31)) &&& 7) ((w >>> ((6 : Int32) &&& 31)) &&& 7) ((w >>> ((3 : Int32) &&& 31)) &&& 7) (((τ 5 (ix 7)) + 1) &&& 255) 0 := by
  unfold m_perform m_perform_63
  rw [ho]
  rfl
theorem mb_9 {τ : St} {w n y : Int32} (h : ((w >>> ((6 : Int32) &&& 31)) &&& 7) = 7) : m_perform_68 τ w 9 ((w >>> ((9 : Int32) &&& 31)) &&& 7) ((w >>> ((6 : Int32) &&& 31)) &&& 7) ((w >>> ((3 : Int32) &&& 31)) &&& 7) n y = m_perform_94 τ := by
  unfold m_perform_68
  simp only [bd2, nb_9 h]
  rw [if_neg (by decide)]
theorem mg_9 {σ : St} {w n : Int32} (hb : ¬ ((w >>> ((6 : Int32) &&& 31)) &&& 7) = 7) : m_perform_68 (vK σ) w 9 ((w >>> ((9 : Int32) &&& 31)) &&& 7) ((w >>> ((6 : Int32) &&& 31)) &&& 7) ((w >>> ((3 : Int32) &&& 31)) &&& 7) n 0 = m_perform_100 (vK σ) w 9 ((w >>> ((9 : Int32) &&& 31)) &&& 7) ((w >>> ((6 : Int32) &&& 31)) &&& 7) ((w >>> ((3 : Int32) &&& 31)) &&& 7) n := by
  unfold m_perform_68
  simp only [bd2, ns_9 hb]
  first | rw [if_pos trivial, if_pos trivial] | rw [if_pos rfl, if_pos rfl]
theorem named_10 : named (ix 10) = 0 := by decide
theorem ns_10 {τ : St} {a b c : Int32} : m_namesSeven τ 10 a b c = (τ, 0) := by
  simp (decide := true) [m_namesSeven, m_namesSeven_17, m_namesSeven_16, m_namesSeven_29, m_namesSeven_47, m_namesSeven_57, m_namesSeven_58, m_namesSeven_80, m_namesSeven_90, m_namesSeven_86, m_namesSeven_91]
theorem ku_10 {σ : St} {w : Int32} (ho : (w >>> ((12 : Int32) &&& 31)) = 10) : k_isUnknown σ w = (σ, 0) := by
  have ho2 : (w >>> ((12 : Int32) &&& 31)) &&& 15 = 10 := by rw [ho]; decide
  simp (decide := true) [k_isUnknown, k_isUnknown_38, k_isUnknown_36, k_isUnknown_62, k_isUnknown_80, k_isUnknown_97, k_isUnknown_101, k_isUnknown_102, ho2, named_10]
theorem mp_10 (τ : St) {w : Int32} (ho : (w >>> ((12 : Int32) &&& 31)) = 10) : m_perform τ w = m_perform_68 τ w 10 ((w >>> ((9 : Int32) &&& 31)) &&& 7) ((w >>> ((6 : Int32) &&& 31)) &&& 7) ((w >>> ((3 : Int32) &&& 31)) &&& 7) (((τ 5 (ix 7)) + 1) &&& 255) 0 := by
  unfold m_perform m_perform_63
  rw [ho]
  rfl
theorem mg_10 {σ : St} {w n : Int32} : m_perform_68 (vK σ) w 10 ((w >>> ((9 : Int32) &&& 31)) &&& 7) ((w >>> ((6 : Int32) &&& 31)) &&& 7) ((w >>> ((3 : Int32) &&& 31)) &&& 7) n 0 = m_perform_100 (vK σ) w 10 ((w >>> ((9 : Int32) &&& 31)) &&& 7) ((w >>> ((6 : Int32) &&& 31)) &&& 7) ((w >>> ((3 : Int32) &&& 31)) &&& 7) n := by
  unfold m_perform_68
  simp only [bd2, ns_10]
  first | rw [if_pos trivial, if_pos trivial] | rw [if_pos rfl, if_pos rfl]
theorem named_11 : named (ix 11) = 2 := by decide
theorem ns_11 {τ : St} {a b c : Int32} (hb : ¬ b = 7) : m_namesSeven τ 11 a b c = (τ, 0) := by
  simp (decide := true) [m_namesSeven, m_namesSeven_17, m_namesSeven_16, m_namesSeven_29, m_namesSeven_47, m_namesSeven_57, m_namesSeven_58, m_namesSeven_80, m_namesSeven_90, m_namesSeven_86, m_namesSeven_91, hb]
theorem nb_11 {τ : St} {a b c : Int32} (h : b = 7) : m_namesSeven τ 11 a b c = (τ, 1) := by
  simp (decide := true) [m_namesSeven, m_namesSeven_17, m_namesSeven_16, m_namesSeven_29, m_namesSeven_47, m_namesSeven_57, m_namesSeven_58, m_namesSeven_80, m_namesSeven_90, m_namesSeven_86, m_namesSeven_91, h]
theorem ku_11 {σ : St} {w : Int32} (ho : (w >>> ((12 : Int32) &&& 31)) = 11) (h0 : σ 6 5 = 0) (hb : ¬ ((w >>> ((6 : Int32) &&& 31)) &&& 7) = 7) : k_isUnknown σ w = (σ, 0) := by
  have ho2 : (w >>> ((12 : Int32) &&& 31)) &&& 15 = 11 := by rw [ho]; decide
  simp (decide := true) [k_isUnknown, k_isUnknown_38, k_isUnknown_36, k_isUnknown_62, k_isUnknown_80, k_isUnknown_97, k_isUnknown_101, k_isUnknown_102, ho2, named_11, h0, hb]
theorem kw_11 {σ : St} {w : Int32} (ho : (w >>> ((12 : Int32) &&& 31)) = 11) (h0 : ¬ σ 6 5 = 0) : k_isUnknown σ w = (σ, 1) := by
  have ho2 : (w >>> ((12 : Int32) &&& 31)) &&& 15 = 11 := by rw [ho]; decide
  simp (decide := true) [k_isUnknown, k_isUnknown_38, k_isUnknown_36, k_isUnknown_62, k_isUnknown_80, k_isUnknown_97, k_isUnknown_101, k_isUnknown_102, ho2, h0]
theorem kb_11 {σ : St} {w : Int32} (ho : (w >>> ((12 : Int32) &&& 31)) = 11) (h : ((w >>> ((6 : Int32) &&& 31)) &&& 7) = 7) : k_isUnknown σ w = (σ, 1) := by
  have ho2 : (w >>> ((12 : Int32) &&& 31)) &&& 15 = 11 := by rw [ho]; decide
  have z : ((w >>> ((6 : Int32) &&& 31)) &&& 7) = 7 := h
  by_cases h0 : σ 6 5 = 0
  · simp (decide := true) [k_isUnknown, k_isUnknown_38, k_isUnknown_36, k_isUnknown_62, k_isUnknown_80, k_isUnknown_97, k_isUnknown_101, k_isUnknown_102, ho2, named_11, h0, z]
  · simp (decide := true) [k_isUnknown, k_isUnknown_38, k_isUnknown_36, k_isUnknown_62, k_isUnknown_80, k_isUnknown_97, k_isUnknown_101, k_isUnknown_102, ho2, named_11, h0, z]
theorem mp_11 (τ : St) {w : Int32} (ho : (w >>> ((12 : Int32) &&& 31)) = 11) : m_perform τ w = m_perform_68 τ w 11 ((w >>> ((9 : Int32) &&& 31)) &&& 7) ((w >>> ((6 : Int32) &&& 31)) &&& 7) ((w >>> ((3 : Int32) &&& 31)) &&& 7) (((τ 5 (ix 7)) + 1) &&& 255) 1 := by
  unfold m_perform m_perform_63
  rw [ho]
  rfl
theorem mo_11 {σ : St} {w n : Int32} (h0 : ¬ σ 6 5 = 0) (hz : zb (σ 6 5)) : m_perform_68 (vK σ) w 11 ((w >>> ((9 : Int32) &&& 31)) &&& 7) ((w >>> ((6 : Int32) &&& 31)) &&& 7) ((w >>> ((3 : Int32) &&& 31)) &&& 7) n 1 = m_perform_94 (vK σ) := by
  unfold m_perform_68
  by_cases hb : ((w >>> ((6 : Int32) &&& 31)) &&& 7) = 7
  · simp only [bd2, nb_11 hb]
    rw [if_neg (by decide)]
  · simp only [bd2, ns_11 hb, iow hz]
    first | rw [if_pos trivial] | rw [if_pos rfl]
    rw [if_neg (by decide), if_neg h0]
theorem mb_11 {τ : St} {w n y : Int32} (h : ((w >>> ((6 : Int32) &&& 31)) &&& 7) = 7) : m_perform_68 τ w 11 ((w >>> ((9 : Int32) &&& 31)) &&& 7) ((w >>> ((6 : Int32) &&& 31)) &&& 7) ((w >>> ((3 : Int32) &&& 31)) &&& 7) n y = m_perform_94 τ := by
  unfold m_perform_68
  simp only [bd2, nb_11 h]
  rw [if_neg (by decide)]
theorem mg_11 {σ : St} {w n : Int32} (h0 : σ 6 5 = 0) (hz : zb (σ 6 5)) (hb : ¬ ((w >>> ((6 : Int32) &&& 31)) &&& 7) = 7) : m_perform_68 (vK σ) w 11 ((w >>> ((9 : Int32) &&& 31)) &&& 7) ((w >>> ((6 : Int32) &&& 31)) &&& 7) ((w >>> ((3 : Int32) &&& 31)) &&& 7) n 1 = m_perform_100 (vK σ) w 11 ((w >>> ((9 : Int32) &&& 31)) &&& 7) ((w >>> ((6 : Int32) &&& 31)) &&& 7) ((w >>> ((3 : Int32) &&& 31)) &&& 7) n := by
  unfold m_perform_68
  simp only [bd2, ns_11 hb, iow hz]
  first | rw [if_pos trivial] | rw [if_pos rfl]
  rw [if_neg (by decide), if_pos h0]
theorem named_12 : named (ix 12) = 2 := by decide
theorem ns_12 {τ : St} {a b c : Int32} (hb : ¬ b = 7) : m_namesSeven τ 12 a b c = (τ, 0) := by
  simp (decide := true) [m_namesSeven, m_namesSeven_17, m_namesSeven_16, m_namesSeven_29, m_namesSeven_47, m_namesSeven_57, m_namesSeven_58, m_namesSeven_80, m_namesSeven_90, m_namesSeven_86, m_namesSeven_91, hb]
theorem nb_12 {τ : St} {a b c : Int32} (h : b = 7) : m_namesSeven τ 12 a b c = (τ, 1) := by
  simp (decide := true) [m_namesSeven, m_namesSeven_17, m_namesSeven_16, m_namesSeven_29, m_namesSeven_47, m_namesSeven_57, m_namesSeven_58, m_namesSeven_80, m_namesSeven_90, m_namesSeven_86, m_namesSeven_91, h]
theorem ku_12 {σ : St} {w : Int32} (ho : (w >>> ((12 : Int32) &&& 31)) = 12) (h0 : σ 6 5 = 0) (hb : ¬ ((w >>> ((6 : Int32) &&& 31)) &&& 7) = 7) : k_isUnknown σ w = (σ, 0) := by
  have ho2 : (w >>> ((12 : Int32) &&& 31)) &&& 15 = 12 := by rw [ho]; decide
  simp (decide := true) [k_isUnknown, k_isUnknown_38, k_isUnknown_36, k_isUnknown_62, k_isUnknown_80, k_isUnknown_97, k_isUnknown_101, k_isUnknown_102, ho2, named_12, h0, hb]
theorem kw_12 {σ : St} {w : Int32} (ho : (w >>> ((12 : Int32) &&& 31)) = 12) (h0 : ¬ σ 6 5 = 0) : k_isUnknown σ w = (σ, 1) := by
  have ho2 : (w >>> ((12 : Int32) &&& 31)) &&& 15 = 12 := by rw [ho]; decide
  simp (decide := true) [k_isUnknown, k_isUnknown_38, k_isUnknown_36, k_isUnknown_62, k_isUnknown_80, k_isUnknown_97, k_isUnknown_101, k_isUnknown_102, ho2, h0]
theorem kb_12 {σ : St} {w : Int32} (ho : (w >>> ((12 : Int32) &&& 31)) = 12) (h : ((w >>> ((6 : Int32) &&& 31)) &&& 7) = 7) : k_isUnknown σ w = (σ, 1) := by
  have ho2 : (w >>> ((12 : Int32) &&& 31)) &&& 15 = 12 := by rw [ho]; decide
  have z : ((w >>> ((6 : Int32) &&& 31)) &&& 7) = 7 := h
  by_cases h0 : σ 6 5 = 0
  · simp (decide := true) [k_isUnknown, k_isUnknown_38, k_isUnknown_36, k_isUnknown_62, k_isUnknown_80, k_isUnknown_97, k_isUnknown_101, k_isUnknown_102, ho2, named_12, h0, z]
  · simp (decide := true) [k_isUnknown, k_isUnknown_38, k_isUnknown_36, k_isUnknown_62, k_isUnknown_80, k_isUnknown_97, k_isUnknown_101, k_isUnknown_102, ho2, named_12, h0, z]
theorem mp_12 (τ : St) {w : Int32} (ho : (w >>> ((12 : Int32) &&& 31)) = 12) : m_perform τ w = m_perform_68 τ w 12 ((w >>> ((9 : Int32) &&& 31)) &&& 7) ((w >>> ((6 : Int32) &&& 31)) &&& 7) ((w >>> ((3 : Int32) &&& 31)) &&& 7) (((τ 5 (ix 7)) + 1) &&& 255) 1 := by
  unfold m_perform m_perform_63
  rw [ho]
  rfl
theorem mo_12 {σ : St} {w n : Int32} (h0 : ¬ σ 6 5 = 0) (hz : zb (σ 6 5)) : m_perform_68 (vK σ) w 12 ((w >>> ((9 : Int32) &&& 31)) &&& 7) ((w >>> ((6 : Int32) &&& 31)) &&& 7) ((w >>> ((3 : Int32) &&& 31)) &&& 7) n 1 = m_perform_94 (vK σ) := by
  unfold m_perform_68
  by_cases hb : ((w >>> ((6 : Int32) &&& 31)) &&& 7) = 7
  · simp only [bd2, nb_12 hb]
    rw [if_neg (by decide)]
  · simp only [bd2, ns_12 hb, iow hz]
    first | rw [if_pos trivial] | rw [if_pos rfl]
    rw [if_neg (by decide), if_neg h0]
theorem mb_12 {τ : St} {w n y : Int32} (h : ((w >>> ((6 : Int32) &&& 31)) &&& 7) = 7) : m_perform_68 τ w 12 ((w >>> ((9 : Int32) &&& 31)) &&& 7) ((w >>> ((6 : Int32) &&& 31)) &&& 7) ((w >>> ((3 : Int32) &&& 31)) &&& 7) n y = m_perform_94 τ := by
  unfold m_perform_68
  simp only [bd2, nb_12 h]
  rw [if_neg (by decide)]
theorem mg_12 {σ : St} {w n : Int32} (h0 : σ 6 5 = 0) (hz : zb (σ 6 5)) (hb : ¬ ((w >>> ((6 : Int32) &&& 31)) &&& 7) = 7) : m_perform_68 (vK σ) w 12 ((w >>> ((9 : Int32) &&& 31)) &&& 7) ((w >>> ((6 : Int32) &&& 31)) &&& 7) ((w >>> ((3 : Int32) &&& 31)) &&& 7) n 1 = m_perform_100 (vK σ) w 12 ((w >>> ((9 : Int32) &&& 31)) &&& 7) ((w >>> ((6 : Int32) &&& 31)) &&& 7) ((w >>> ((3 : Int32) &&& 31)) &&& 7) n := by
  unfold m_perform_68
  simp only [bd2, ns_12 hb, iow hz]
  first | rw [if_pos trivial] | rw [if_pos rfl]
  rw [if_neg (by decide), if_pos h0]
theorem named_13 : named (ix 13) = 0 := by decide
theorem ns_13 {τ : St} {a b c : Int32} : m_namesSeven τ 13 a b c = (τ, 0) := by
  simp (decide := true) [m_namesSeven, m_namesSeven_17, m_namesSeven_16, m_namesSeven_29, m_namesSeven_47, m_namesSeven_57, m_namesSeven_58, m_namesSeven_80, m_namesSeven_90, m_namesSeven_86, m_namesSeven_91]
theorem ku_13 {σ : St} {w : Int32} (ho : (w >>> ((12 : Int32) &&& 31)) = 13) : k_isUnknown σ w = (σ, 0) := by
  have ho2 : (w >>> ((12 : Int32) &&& 31)) &&& 15 = 13 := by rw [ho]; decide
  simp (decide := true) [k_isUnknown, k_isUnknown_38, k_isUnknown_36, k_isUnknown_62, k_isUnknown_80, k_isUnknown_97, k_isUnknown_101, k_isUnknown_102, ho2, named_13]
theorem mp_13 (τ : St) {w : Int32} (ho : (w >>> ((12 : Int32) &&& 31)) = 13) : m_perform τ w = m_perform_68 τ w 13 ((w >>> ((9 : Int32) &&& 31)) &&& 7) ((w >>> ((6 : Int32) &&& 31)) &&& 7) ((w >>> ((3 : Int32) &&& 31)) &&& 7) (((τ 5 (ix 7)) + 1) &&& 255) 0 := by
  unfold m_perform m_perform_63
  rw [ho]
  rfl
theorem mg_13 {σ : St} {w n : Int32} : m_perform_68 (vK σ) w 13 ((w >>> ((9 : Int32) &&& 31)) &&& 7) ((w >>> ((6 : Int32) &&& 31)) &&& 7) ((w >>> ((3 : Int32) &&& 31)) &&& 7) n 0 = m_perform_100 (vK σ) w 13 ((w >>> ((9 : Int32) &&& 31)) &&& 7) ((w >>> ((6 : Int32) &&& 31)) &&& 7) ((w >>> ((3 : Int32) &&& 31)) &&& 7) n := by
  unfold m_perform_68
  simp only [bd2, ns_13]
  first | rw [if_pos trivial, if_pos trivial] | rw [if_pos rfl, if_pos rfl]
theorem named_14 : named (ix 14) = 0 := by decide
theorem ns_14 {τ : St} {a b c : Int32} : m_namesSeven τ 14 a b c = (τ, 0) := by
  simp (decide := true) [m_namesSeven, m_namesSeven_17, m_namesSeven_16, m_namesSeven_29, m_namesSeven_47, m_namesSeven_57, m_namesSeven_58, m_namesSeven_80, m_namesSeven_90, m_namesSeven_86, m_namesSeven_91]
theorem ku_14 {σ : St} {w : Int32} (ho : (w >>> ((12 : Int32) &&& 31)) = 14) : k_isUnknown σ w = (σ, 0) := by
  have ho2 : (w >>> ((12 : Int32) &&& 31)) &&& 15 = 14 := by rw [ho]; decide
  simp (decide := true) [k_isUnknown, k_isUnknown_38, k_isUnknown_36, k_isUnknown_62, k_isUnknown_80, k_isUnknown_97, k_isUnknown_101, k_isUnknown_102, ho2, named_14]
theorem mp_14 (τ : St) {w : Int32} (ho : (w >>> ((12 : Int32) &&& 31)) = 14) : m_perform τ w = m_perform_68 τ w 14 ((w >>> ((9 : Int32) &&& 31)) &&& 7) ((w >>> ((6 : Int32) &&& 31)) &&& 7) ((w >>> ((3 : Int32) &&& 31)) &&& 7) (((τ 5 (ix 7)) + 1) &&& 255) 0 := by
  unfold m_perform m_perform_63
  rw [ho]
  rfl
theorem mg_14 {σ : St} {w n : Int32} : m_perform_68 (vK σ) w 14 ((w >>> ((9 : Int32) &&& 31)) &&& 7) ((w >>> ((6 : Int32) &&& 31)) &&& 7) ((w >>> ((3 : Int32) &&& 31)) &&& 7) n 0 = m_perform_100 (vK σ) w 14 ((w >>> ((9 : Int32) &&& 31)) &&& 7) ((w >>> ((6 : Int32) &&& 31)) &&& 7) ((w >>> ((3 : Int32) &&& 31)) &&& 7) n := by
  unfold m_perform_68
  simp only [bd2, ns_14]
  first | rw [if_pos trivial, if_pos trivial] | rw [if_pos rfl, if_pos rfl]
theorem named_15 : named (ix 15) = 0 := by decide
theorem ns_15 {τ : St} {a b c : Int32} : m_namesSeven τ 15 a b c = (τ, 0) := by
  simp (decide := true) [m_namesSeven, m_namesSeven_17, m_namesSeven_16, m_namesSeven_29, m_namesSeven_47, m_namesSeven_57, m_namesSeven_58, m_namesSeven_80, m_namesSeven_90, m_namesSeven_86, m_namesSeven_91]
theorem ku_15 {σ : St} {w : Int32} (ho : (w >>> ((12 : Int32) &&& 31)) = 15) (h0 : σ 6 5 = 0) : k_isUnknown σ w = (σ, 0) := by
  have ho2 : (w >>> ((12 : Int32) &&& 31)) &&& 15 = 15 := by rw [ho]; decide
  simp (decide := true) [k_isUnknown, k_isUnknown_38, k_isUnknown_36, k_isUnknown_62, k_isUnknown_80, k_isUnknown_97, k_isUnknown_101, k_isUnknown_102, ho2, named_15, h0]
theorem kw_15 {σ : St} {w : Int32} (ho : (w >>> ((12 : Int32) &&& 31)) = 15) (h0 : ¬ σ 6 5 = 0) : k_isUnknown σ w = (σ, 1) := by
  have ho2 : (w >>> ((12 : Int32) &&& 31)) &&& 15 = 15 := by rw [ho]; decide
  simp (decide := true) [k_isUnknown, k_isUnknown_38, k_isUnknown_36, k_isUnknown_62, k_isUnknown_80, k_isUnknown_97, k_isUnknown_101, k_isUnknown_102, ho2, h0]
theorem mp_15 (τ : St) {w : Int32} (ho : (w >>> ((12 : Int32) &&& 31)) = 15) : m_perform τ w = m_perform_68 τ w 15 ((w >>> ((9 : Int32) &&& 31)) &&& 7) ((w >>> ((6 : Int32) &&& 31)) &&& 7) ((w >>> ((3 : Int32) &&& 31)) &&& 7) (((τ 5 (ix 7)) + 1) &&& 255) 1 := by
  unfold m_perform m_perform_63
  rw [ho]
  rfl
theorem mo_15 {σ : St} {w n : Int32} (h0 : ¬ σ 6 5 = 0) (hz : zb (σ 6 5)) : m_perform_68 (vK σ) w 15 ((w >>> ((9 : Int32) &&& 31)) &&& 7) ((w >>> ((6 : Int32) &&& 31)) &&& 7) ((w >>> ((3 : Int32) &&& 31)) &&& 7) n 1 = m_perform_94 (vK σ) := by
  unfold m_perform_68
  simp only [bd2, ns_15, iow hz]
  first | rw [if_pos trivial] | rw [if_pos rfl]
  rw [if_neg (by decide), if_neg h0]
theorem mg_15 {σ : St} {w n : Int32} (h0 : σ 6 5 = 0) (hz : zb (σ 6 5)) : m_perform_68 (vK σ) w 15 ((w >>> ((9 : Int32) &&& 31)) &&& 7) ((w >>> ((6 : Int32) &&& 31)) &&& 7) ((w >>> ((3 : Int32) &&& 31)) &&& 7) n 1 = m_perform_100 (vK σ) w 15 ((w >>> ((9 : Int32) &&& 31)) &&& 7) ((w >>> ((6 : Int32) &&& 31)) &&& 7) ((w >>> ((3 : Int32) &&& 31)) &&& 7) n := by
  unfold m_perform_68
  simp only [bd2, ns_15, iow hz]
  first | rw [if_pos trivial] | rw [if_pos rfl]
  rw [if_neg (by decide), if_pos h0]
theorem mm_X {σ : St} (h : XX σ) : MM σ (vK σ) := by
  obtain ⟨-, hA, hf | hf⟩ := h
  · exact Or.inl ⟨hf, rfl, hA⟩
  · exact Or.inr (hf ▸ DD_of hA)
theorem c4_fin : ∀ j : Fin 8, nI j.val - nI j.val / 4 * 4 = nI j.val &&& 3 := by decide +kernel
theorem c4 (x : Int32) : (x &&& 7) - (x &&& 7) / 4 * 4 = x &&& 3 := by
  have h : (x &&& 7).toBitVec.toNat < 8 := and_lt x 7 (by decide)
  have e : x &&& 3 = (x &&& 7) &&& 3 := by
    apply i_ext
    rw [and_nat, and_nat, and_nat, Nat.and_assoc]
    rfl
  rw [e]
  have f := c4_fin ⟨_, h⟩
  have f : nI (x &&& 7).toBitVec.toNat - nI (x &&& 7).toBitVec.toNat / 4 * 4 = nI (x &&& 7).toBitVec.toNat &&& 3 := f
  rw [← nat_nI] at f
  exact f
theorem cf158 (σ : St) : k_changeFlow_158 σ = σ := rfl
theorem pf465 (σ : St) : m_perform_465 σ = σ := rfl
theorem zif1 {v : Int32} : zb (if v = 0 then (1 : Int32) else 0) := by split <;> decide
theorem perf_0 {σ : St} {w : Int32} (hJ : JJ σ) (hA : AE σ) (hf : σ 0 14 = 0) (ho : (w >>> ((12 : Int32) &&& 31)) = 0) : FM (kP σ w) (m_perform (vK σ) w) ∧ JJ (kP σ w) := by
  rw [mp_0 _ ho]
  by_cases hbad : ((w >>> ((9 : Int32) &&& 31)) &&& 7) = 7
  · exact perf_u hJ hA hf (kb_0 ho hbad) (mb_0 hbad)
  have ha : ¬ ((w >>> ((9 : Int32) &&& 31)) &&& 7) = 7 := fun z => hbad z
  rw [kP_k (ku_0 ho ha), mg_0 ha]
  have hk : kQ σ w = up2 (up2 σ 6 3 (((σ 6 3) + 1) &&& 255)) 8 (ix ((w >>> ((9 : Int32) &&& 31)) &&& 7)) (w &&& 511) := by
    unfold kQ k_moveData
    rw [ho]
    rfl
  have hm : m_perform_100 (vK σ) w 0 ((w >>> ((9 : Int32) &&& 31)) &&& 7) ((w >>> ((6 : Int32) &&& 31)) &&& 7) ((w >>> ((3 : Int32) &&& 31)) &&& 7) (((vK σ 5 (ix 7)) + 1) &&& 255) = up2 (vK (up2 σ 6 3 (((σ 6 3) + 1) &&& 255))) 5 (ix ((w >>> ((9 : Int32) &&& 31)) &&& 7)) (w &&& 511) := by
    rw [vK_6_3]
    rfl
  rw [hk, hm]
  have J1 : JJ (up2 σ 6 3 (((σ 6 3) + 1) &&& 255)) := JJ_6_3 hJ (b8_and _)
  have A1 : AE (up2 σ 6 3 (((σ 6 3) + 1) &&& 255)) := hA
  have F1 : (up2 σ 6 3 (((σ 6 3) + 1) &&& 255)) 0 14 = 0 := hf
  have N1 : (up2 σ 6 3 (((σ 6 3) + 1) &&& 255)) 6 3 = (((σ 6 3) + 1) &&& 255) := rfl
  clear hk hm
  generalize (up2 σ 6 3 (((σ 6 3) + 1) &&& 255)) = σ1 at *
  have M1 := mm_e A1 F1
  have X1 : XX σ1 := ⟨J1, A1, Or.inl F1⟩
  exact ⟨fm_M (mm_r (ix_lt7 ha) M1 (fun _ => rfl)), JJ_8 J1 (wd_511 _)⟩
theorem perf_1 {σ : St} {w : Int32} (hJ : JJ σ) (hA : AE σ) (hf : σ 0 14 = 0) (ho : (w >>> ((12 : Int32) &&& 31)) = 1) : FM (kP σ w) (m_perform (vK σ) w) ∧ JJ (kP σ w) := by
  rw [mp_1 _ ho]
  by_cases hbad : ((w >>> ((9 : Int32) &&& 31)) &&& 7) = 7 ∨ ((w >>> ((6 : Int32) &&& 31)) &&& 7) = 7 ∨ ((w >>> ((3 : Int32) &&& 31)) &&& 7) = 7
  · exact perf_u hJ hA hf (kb_1 ho hbad) (mb_1 hbad)
  have ha : ¬ ((w >>> ((9 : Int32) &&& 31)) &&& 7) = 7 := fun z => hbad (Or.inl z)
  have hb : ¬ ((w >>> ((6 : Int32) &&& 31)) &&& 7) = 7 := fun z => hbad (Or.inr (Or.inl z))
  have hc : ¬ ((w >>> ((3 : Int32) &&& 31)) &&& 7) = 7 := fun z => hbad (Or.inr (Or.inr z))
  rw [kP_k (ku_1 ho ha hb hc), mg_1 ha hb hc]
  have hk : kQ σ w = up2 (up2 σ 6 3 (((σ 6 3) + 1) &&& 255)) 8 (ix ((w >>> ((9 : Int32) &&& 31)) &&& 7)) ((((up2 σ 6 3 (((σ 6 3) + 1) &&& 255)) 8 (ix ((w >>> ((6 : Int32) &&& 31)) &&& 7))) + ((up2 σ 6 3 (((σ 6 3) + 1) &&& 255)) 8 (ix ((w >>> ((3 : Int32) &&& 31)) &&& 7)))) &&& 65535) := by
    unfold kQ k_moveData
    rw [ho]
    rfl
  have hm : m_perform_100 (vK σ) w 1 ((w >>> ((9 : Int32) &&& 31)) &&& 7) ((w >>> ((6 : Int32) &&& 31)) &&& 7) ((w >>> ((3 : Int32) &&& 31)) &&& 7) (((vK σ 5 (ix 7)) + 1) &&& 255) = up2 (vK (up2 σ 6 3 (((σ 6 3) + 1) &&& 255))) 5 (ix ((w >>> ((9 : Int32) &&& 31)) &&& 7)) ((((vK (up2 σ 6 3 (((σ 6 3) + 1) &&& 255))) 5 (ix ((w >>> ((6 : Int32) &&& 31)) &&& 7))) + ((vK (up2 σ 6 3 (((σ 6 3) + 1) &&& 255))) 5 (ix ((w >>> ((3 : Int32) &&& 31)) &&& 7)))) &&& 65535) := by
    rw [vK_6_3]
    rfl
  rw [hk, hm]
  have J1 : JJ (up2 σ 6 3 (((σ 6 3) + 1) &&& 255)) := JJ_6_3 hJ (b8_and _)
  have A1 : AE (up2 σ 6 3 (((σ 6 3) + 1) &&& 255)) := hA
  have F1 : (up2 σ 6 3 (((σ 6 3) + 1) &&& 255)) 0 14 = 0 := hf
  have N1 : (up2 σ 6 3 (((σ 6 3) + 1) &&& 255)) 6 3 = (((σ 6 3) + 1) &&& 255) := rfl
  clear hk hm
  generalize (up2 σ 6 3 (((σ 6 3) + 1) &&& 255)) = σ1 at *
  have M1 := mm_e A1 F1
  have X1 : XX σ1 := ⟨J1, A1, Or.inl F1⟩
  rw [vK_r (ix_lt7 hb), vK_r (ix_lt7 hc)]
  exact ⟨fm_M (mm_r (ix_lt7 ha) M1 (fun _ => rfl)), JJ_8 J1 (wd_and _)⟩
theorem perf_2 {σ : St} {w : Int32} (hJ : JJ σ) (hA : AE σ) (hf : σ 0 14 = 0) (ho : (w >>> ((12 : Int32) &&& 31)) = 2) : FM (kP σ w) (m_perform (vK σ) w) ∧ JJ (kP σ w) := by
  rw [mp_2 _ ho]
  by_cases hbad : ((w >>> ((9 : Int32) &&& 31)) &&& 7) = 7 ∨ ((w >>> ((6 : Int32) &&& 31)) &&& 7) = 7 ∨ ((w >>> ((3 : Int32) &&& 31)) &&& 7) = 7
  · exact perf_u hJ hA hf (kb_2 ho hbad) (mb_2 hbad)
  have ha : ¬ ((w >>> ((9 : Int32) &&& 31)) &&& 7) = 7 := fun z => hbad (Or.inl z)
  have hb : ¬ ((w >>> ((6 : Int32) &&& 31)) &&& 7) = 7 := fun z => hbad (Or.inr (Or.inl z))
  have hc : ¬ ((w >>> ((3 : Int32) &&& 31)) &&& 7) = 7 := fun z => hbad (Or.inr (Or.inr z))
  rw [kP_k (ku_2 ho ha hb hc), mg_2 ha hb hc]
  have hk : kQ σ w = bd (up2 (up2 σ 6 3 (((σ 6 3) + 1) &&& 255)) 8 (ix ((w >>> ((9 : Int32) &&& 31)) &&& 7)) ((((up2 σ 6 3 (((σ 6 3) + 1) &&& 255)) 8 (ix ((w >>> ((6 : Int32) &&& 31)) &&& 7))) - ((up2 σ 6 3 (((σ 6 3) + 1) &&& 255)) 8 (ix ((w >>> ((3 : Int32) &&& 31)) &&& 7)))) &&& 65535)) fun s => if (s 8 (ix ((w >>> ((9 : Int32) &&& 31)) &&& 7))) = 0 then up2 s 6 4 1 else up2 s 6 4 0 := by
    unfold kQ k_moveData
    rw [ho]
    rfl
  have hm : m_perform_100 (vK σ) w 2 ((w >>> ((9 : Int32) &&& 31)) &&& 7) ((w >>> ((6 : Int32) &&& 31)) &&& 7) ((w >>> ((3 : Int32) &&& 31)) &&& 7) (((vK σ 5 (ix 7)) + 1) &&& 255) = bd (up2 (vK (up2 σ 6 3 (((σ 6 3) + 1) &&& 255))) 5 (ix ((w >>> ((9 : Int32) &&& 31)) &&& 7)) ((((vK (up2 σ 6 3 (((σ 6 3) + 1) &&& 255))) 5 (ix ((w >>> ((6 : Int32) &&& 31)) &&& 7))) - ((vK (up2 σ 6 3 (((σ 6 3) + 1) &&& 255))) 5 (ix ((w >>> ((3 : Int32) &&& 31)) &&& 7)))) &&& 65535)) fun s => if (s 5 (ix ((w >>> ((9 : Int32) &&& 31)) &&& 7))) = 0 then up2 s 5 (ix 10) 1 else up2 s 5 (ix 10) 0 := by
    rw [vK_6_3]
    rfl
  rw [hk, hm]
  have J1 : JJ (up2 σ 6 3 (((σ 6 3) + 1) &&& 255)) := JJ_6_3 hJ (b8_and _)
  have A1 : AE (up2 σ 6 3 (((σ 6 3) + 1) &&& 255)) := hA
  have F1 : (up2 σ 6 3 (((σ 6 3) + 1) &&& 255)) 0 14 = 0 := hf
  have N1 : (up2 σ 6 3 (((σ 6 3) + 1) &&& 255)) 6 3 = (((σ 6 3) + 1) &&& 255) := rfl
  clear hk hm
  generalize (up2 σ 6 3 (((σ 6 3) + 1) &&& 255)) = σ1 at *
  have M1 := mm_e A1 F1
  have X1 : XX σ1 := ⟨J1, A1, Or.inl F1⟩
  have hd : wd (((σ1 8 (ix ((w >>> ((6 : Int32) &&& 31)) &&& 7))) - (σ1 8 (ix ((w >>> ((3 : Int32) &&& 31)) &&& 7)))) &&& 65535) := wd_and _
  rw [vK_r (ix_lt7 hb), vK_r (ix_lt7 hc)]
  generalize ((σ1 8 (ix ((w >>> ((6 : Int32) &&& 31)) &&& 7))) - (σ1 8 (ix ((w >>> ((3 : Int32) &&& 31)) &&& 7)))) &&& 65535 = d at *
  simp only [bd]
  rw [ite_F (fun z => up2 (up2 σ1 8 (ix ((w >>> ((9 : Int32) &&& 31)) &&& 7)) d) 6 4 z), ite_F (fun z => up2 (up2 (vK σ1) 5 (ix ((w >>> ((9 : Int32) &&& 31)) &&& 7)) d) 5 (ix 10) z), up2_at, up2_at]
  exact ⟨fm_M (mm_z (mm_r (ix_lt7 ha) M1 (fun _ => rfl)) (fun _ => rfl)), JJ_6_4 (JJ_8 J1 hd) zif1⟩
theorem perf_3 {σ : St} {w : Int32} (hJ : JJ σ) (hA : AE σ) (hf : σ 0 14 = 0) (ho : (w >>> ((12 : Int32) &&& 31)) = 3) : FM (kP σ w) (m_perform (vK σ) w) ∧ JJ (kP σ w) := by
  rw [mp_3 _ ho]
  by_cases hbad : ((w >>> ((9 : Int32) &&& 31)) &&& 7) = 7 ∨ ((w >>> ((6 : Int32) &&& 31)) &&& 7) = 7
  · exact perf_u hJ hA hf (kb_3 ho hbad) (mb_3 hbad)
  have ha : ¬ ((w >>> ((9 : Int32) &&& 31)) &&& 7) = 7 := fun z => hbad (Or.inl z)
  have hb : ¬ ((w >>> ((6 : Int32) &&& 31)) &&& 7) = 7 := fun z => hbad (Or.inr z)
  rw [kP_k (ku_3 ho ha hb), mg_3 ha hb]
  have hk : kQ σ w = bd2 (k_read (up2 σ 6 3 (((σ 6 3) + 1) &&& 255)) (((up2 σ 6 3 (((σ 6 3) + 1) &&& 255)) 8 (ix ((w >>> ((6 : Int32) &&& 31)) &&& 7))) + (w &&& 63))) fun s v => up2 s 8 (ix ((w >>> ((9 : Int32) &&& 31)) &&& 7)) v := by
    unfold kQ k_moveData
    rw [ho]
    rfl
  have hm : m_perform_100 (vK σ) w 3 ((w >>> ((9 : Int32) &&& 31)) &&& 7) ((w >>> ((6 : Int32) &&& 31)) &&& 7) ((w >>> ((3 : Int32) &&& 31)) &&& 7) (((vK σ 5 (ix 7)) + 1) &&& 255) = bd2 (m_read (vK (up2 σ 6 3 (((σ 6 3) + 1) &&& 255))) (((vK (up2 σ 6 3 (((σ 6 3) + 1) &&& 255))) 5 (ix ((w >>> ((6 : Int32) &&& 31)) &&& 7))) + (w &&& 63))) fun s v => up2 s 5 (ix ((w >>> ((9 : Int32) &&& 31)) &&& 7)) v := by
    rw [vK_6_3]
    rfl
  rw [hk, hm]
  have J1 : JJ (up2 σ 6 3 (((σ 6 3) + 1) &&& 255)) := JJ_6_3 hJ (b8_and _)
  have A1 : AE (up2 σ 6 3 (((σ 6 3) + 1) &&& 255)) := hA
  have F1 : (up2 σ 6 3 (((σ 6 3) + 1) &&& 255)) 0 14 = 0 := hf
  have N1 : (up2 σ 6 3 (((σ 6 3) + 1) &&& 255)) 6 3 = (((σ 6 3) + 1) &&& 255) := rfl
  clear hk hm
  generalize (up2 σ 6 3 (((σ 6 3) + 1) &&& 255)) = σ1 at *
  have M1 := mm_e A1 F1
  have X1 : XX σ1 := ⟨J1, A1, Or.inl F1⟩
  rw [vK_r (ix_lt7 hb)]
  obtain ⟨σ2, v2, s2⟩ : ∃ (x : St) (y : Int32), (x, y) = k_read σ1 ((σ1 8 (ix ((w >>> ((6 : Int32) &&& 31)) &&& 7))) + (w &&& 63)) := ⟨_, _, rfl⟩
  obtain ⟨τ2, w2, t2⟩ : ∃ (x : St) (y : Int32), (x, y) = m_read (vK σ1) ((σ1 8 (ix ((w >>> ((6 : Int32) &&& 31)) &&& 7))) + (w &&& 63)) := ⟨_, _, rfl⟩
  rw [bd2_e s2, bd2_e t2]
  obtain ⟨M2, q2, J2, d2⟩ := mm_read s2 t2 J1 A1 F1
  exact ⟨fm_M (mm_r (ix_lt7 ha) M2 q2), JJ_8 J2 d2⟩
theorem perf_4 {σ : St} {w : Int32} (hJ : JJ σ) (hA : AE σ) (hf : σ 0 14 = 0) (ho : (w >>> ((12 : Int32) &&& 31)) = 4) : FM (kP σ w) (m_perform (vK σ) w) ∧ JJ (kP σ w) := by
  rw [mp_4 _ ho]
  by_cases hbad : ((w >>> ((9 : Int32) &&& 31)) &&& 7) = 7 ∨ ((w >>> ((6 : Int32) &&& 31)) &&& 7) = 7
  · exact perf_u hJ hA hf (kb_4 ho hbad) (mb_4 hbad)
  have ha : ¬ ((w >>> ((9 : Int32) &&& 31)) &&& 7) = 7 := fun z => hbad (Or.inl z)
  have hb : ¬ ((w >>> ((6 : Int32) &&& 31)) &&& 7) = 7 := fun z => hbad (Or.inr z)
  rw [kP_k (ku_4 ho ha hb), mg_4 ha hb]
  have hk : kQ σ w = k_write (up2 σ 6 3 (((σ 6 3) + 1) &&& 255)) (((up2 σ 6 3 (((σ 6 3) + 1) &&& 255)) 8 (ix ((w >>> ((6 : Int32) &&& 31)) &&& 7))) + (w &&& 63)) ((up2 σ 6 3 (((σ 6 3) + 1) &&& 255)) 8 (ix ((w >>> ((9 : Int32) &&& 31)) &&& 7))) := by
    unfold kQ k_moveData
    rw [ho]
    rfl
  have hm : m_perform_100 (vK σ) w 4 ((w >>> ((9 : Int32) &&& 31)) &&& 7) ((w >>> ((6 : Int32) &&& 31)) &&& 7) ((w >>> ((3 : Int32) &&& 31)) &&& 7) (((vK σ 5 (ix 7)) + 1) &&& 255) = m_write (vK (up2 σ 6 3 (((σ 6 3) + 1) &&& 255))) (((vK (up2 σ 6 3 (((σ 6 3) + 1) &&& 255))) 5 (ix ((w >>> ((6 : Int32) &&& 31)) &&& 7))) + (w &&& 63)) ((vK (up2 σ 6 3 (((σ 6 3) + 1) &&& 255))) 5 (ix ((w >>> ((9 : Int32) &&& 31)) &&& 7))) := by
    rw [vK_6_3]
    rfl
  rw [hk, hm]
  have J1 : JJ (up2 σ 6 3 (((σ 6 3) + 1) &&& 255)) := JJ_6_3 hJ (b8_and _)
  have A1 : AE (up2 σ 6 3 (((σ 6 3) + 1) &&& 255)) := hA
  have F1 : (up2 σ 6 3 (((σ 6 3) + 1) &&& 255)) 0 14 = 0 := hf
  have N1 : (up2 σ 6 3 (((σ 6 3) + 1) &&& 255)) 6 3 = (((σ 6 3) + 1) &&& 255) := rfl
  clear hk hm
  generalize (up2 σ 6 3 (((σ 6 3) + 1) &&& 255)) = σ1 at *
  have M1 := mm_e A1 F1
  have X1 : XX σ1 := ⟨J1, A1, Or.inl F1⟩
  rw [vK_r (ix_lt7 hb), vK_r (ix_lt7 ha), write_eq J1.1 (JJ_zo J1) X1.2.2 (JJ_r J1 _)]
  have X2 := XX_write (a := (σ1 8 (ix ((w >>> ((6 : Int32) &&& 31)) &&& 7))) + (w &&& 63)) X1 (JJ_r J1 (ix ((w >>> ((9 : Int32) &&& 31)) &&& 7)))
  exact ⟨fm_X X2, X2.1⟩
theorem perf_5 {σ : St} {w : Int32} (hJ : JJ σ) (hA : AE σ) (hf : σ 0 14 = 0) (ho : (w >>> ((12 : Int32) &&& 31)) = 5) : FM (kP σ w) (m_perform (vK σ) w) ∧ JJ (kP σ w) := by
  rw [mp_5 _ ho]
  by_cases hbad : ((w >>> ((9 : Int32) &&& 31)) &&& 7) = 7
  · exact perf_u hJ hA hf (kb_5 ho hbad) (mb_5 hbad)
  have ha : ¬ ((w >>> ((9 : Int32) &&& 31)) &&& 7) = 7 := fun z => hbad z
  rw [kP_k (ku_5 ho ha), mg_5 ha]
  have hk : kQ σ w = k_push (up2 σ 6 3 (((σ 6 3) + 1) &&& 255)) ((up2 σ 6 3 (((σ 6 3) + 1) &&& 255)) 8 (ix ((w >>> ((9 : Int32) &&& 31)) &&& 7))) := by
    unfold kQ k_moveData
    rw [ho]
    rfl
  have hm : m_perform_100 (vK σ) w 5 ((w >>> ((9 : Int32) &&& 31)) &&& 7) ((w >>> ((6 : Int32) &&& 31)) &&& 7) ((w >>> ((3 : Int32) &&& 31)) &&& 7) (((vK σ 5 (ix 7)) + 1) &&& 255) = m_push (vK (up2 σ 6 3 (((σ 6 3) + 1) &&& 255))) ((vK (up2 σ 6 3 (((σ 6 3) + 1) &&& 255))) 5 (ix ((w >>> ((9 : Int32) &&& 31)) &&& 7))) := by
    rw [vK_6_3]
    rfl
  rw [hk, hm]
  have J1 : JJ (up2 σ 6 3 (((σ 6 3) + 1) &&& 255)) := JJ_6_3 hJ (b8_and _)
  have A1 : AE (up2 σ 6 3 (((σ 6 3) + 1) &&& 255)) := hA
  have F1 : (up2 σ 6 3 (((σ 6 3) + 1) &&& 255)) 0 14 = 0 := hf
  have N1 : (up2 σ 6 3 (((σ 6 3) + 1) &&& 255)) 6 3 = (((σ 6 3) + 1) &&& 255) := rfl
  clear hk hm
  generalize (up2 σ 6 3 (((σ 6 3) + 1) &&& 255)) = σ1 at *
  have M1 := mm_e A1 F1
  have X1 : XX σ1 := ⟨J1, A1, Or.inl F1⟩
  rw [vK_r (ix_lt7 ha)]
  obtain ⟨e2, X2⟩ := push_eq X1 (JJ_r J1 (ix ((w >>> ((9 : Int32) &&& 31)) &&& 7)))
  rw [e2]
  exact ⟨fm_X X2, X2.1⟩
theorem perf_6 {σ : St} {w : Int32} (hJ : JJ σ) (hA : AE σ) (hf : σ 0 14 = 0) (ho : (w >>> ((12 : Int32) &&& 31)) = 6) : FM (kP σ w) (m_perform (vK σ) w) ∧ JJ (kP σ w) := by
  rw [mp_6 _ ho]
  by_cases hbad : ((w >>> ((9 : Int32) &&& 31)) &&& 7) = 7
  · exact perf_u hJ hA hf (kb_6 ho hbad) (mb_6 hbad)
  have ha : ¬ ((w >>> ((9 : Int32) &&& 31)) &&& 7) = 7 := fun z => hbad z
  rw [kP_k (ku_6 ho ha), mg_6 ha]
  have hk : kQ σ w = bd2 (k_pop (up2 σ 6 3 (((σ 6 3) + 1) &&& 255))) fun s v => up2 s 8 (ix ((w >>> ((9 : Int32) &&& 31)) &&& 7)) v := by
    unfold kQ k_moveData
    rw [ho]
    rfl
  have hm : m_perform_100 (vK σ) w 6 ((w >>> ((9 : Int32) &&& 31)) &&& 7) ((w >>> ((6 : Int32) &&& 31)) &&& 7) ((w >>> ((3 : Int32) &&& 31)) &&& 7) (((vK σ 5 (ix 7)) + 1) &&& 255) = bd2 (m_pop (vK (up2 σ 6 3 (((σ 6 3) + 1) &&& 255)))) fun s v => up2 s 5 (ix ((w >>> ((9 : Int32) &&& 31)) &&& 7)) v := by
    rw [vK_6_3]
    rfl
  rw [hk, hm]
  have J1 : JJ (up2 σ 6 3 (((σ 6 3) + 1) &&& 255)) := JJ_6_3 hJ (b8_and _)
  have A1 : AE (up2 σ 6 3 (((σ 6 3) + 1) &&& 255)) := hA
  have F1 : (up2 σ 6 3 (((σ 6 3) + 1) &&& 255)) 0 14 = 0 := hf
  have N1 : (up2 σ 6 3 (((σ 6 3) + 1) &&& 255)) 6 3 = (((σ 6 3) + 1) &&& 255) := rfl
  clear hk hm
  generalize (up2 σ 6 3 (((σ 6 3) + 1) &&& 255)) = σ1 at *
  have M1 := mm_e A1 F1
  have X1 : XX σ1 := ⟨J1, A1, Or.inl F1⟩
  obtain ⟨σ2, v2, s2⟩ := k_pop_ex σ1
  obtain ⟨τ2, w2, t2⟩ := m_pop_ex (vK σ1)
  rw [bd2_e s2, bd2_e t2]
  obtain ⟨M2, q2, J2, d2⟩ := mm_pop' s2 t2 J1 M1
  exact ⟨fm_M (mm_r (ix_lt7 ha) M2 q2), JJ_8 J2 d2⟩
theorem perf_7 {σ : St} {w : Int32} (hJ : JJ σ) (hA : AE σ) (hf : σ 0 14 = 0) (ho : (w >>> ((12 : Int32) &&& 31)) = 7) : FM (kP σ w) (m_perform (vK σ) w) ∧ JJ (kP σ w) := by
  rw [mp_7 _ ho]
  rw [kP_k (ku_7 ho), mg_7]
  have hk : kQ σ w = up2 (up2 σ 6 3 (((σ 6 3) + 1) &&& 255)) 6 3 (w &&& 255) := by
    unfold kQ k_changeFlow
    rw [ho]
    rfl
  have hm : m_perform_100 (vK σ) w 7 ((w >>> ((9 : Int32) &&& 31)) &&& 7) ((w >>> ((6 : Int32) &&& 31)) &&& 7) ((w >>> ((3 : Int32) &&& 31)) &&& 7) (((vK σ 5 (ix 7)) + 1) &&& 255) = up2 (vK (up2 σ 6 3 (((σ 6 3) + 1) &&& 255))) 5 (ix 7) (w &&& 255) := by
    rw [vK_6_3]
    rfl
  rw [hk, hm]
  have J1 : JJ (up2 σ 6 3 (((σ 6 3) + 1) &&& 255)) := JJ_6_3 hJ (b8_and _)
  have A1 : AE (up2 σ 6 3 (((σ 6 3) + 1) &&& 255)) := hA
  have F1 : (up2 σ 6 3 (((σ 6 3) + 1) &&& 255)) 0 14 = 0 := hf
  have N1 : (up2 σ 6 3 (((σ 6 3) + 1) &&& 255)) 6 3 = (((σ 6 3) + 1) &&& 255) := rfl
  clear hk hm
  generalize (up2 σ 6 3 (((σ 6 3) + 1) &&& 255)) = σ1 at *
  have M1 := mm_e A1 F1
  have X1 : XX σ1 := ⟨J1, A1, Or.inl F1⟩
  exact ⟨fm_M (mm_pc M1 (fun _ => rfl)), JJ_6_3 J1 (b8_and _)⟩
theorem perf_8 {σ : St} {w : Int32} (hJ : JJ σ) (hA : AE σ) (hf : σ 0 14 = 0) (ho : (w >>> ((12 : Int32) &&& 31)) = 8) : FM (kP σ w) (m_perform (vK σ) w) ∧ JJ (kP σ w) := by
  rw [mp_8 _ ho]
  rw [kP_k (ku_8 ho), mg_8]
  have hk : kQ σ w = if ((up2 σ 6 3 (((σ 6 3) + 1) &&& 255)) 6 4) = 0 then (up2 σ 6 3 (((σ 6 3) + 1) &&& 255)) else up2 (up2 σ 6 3 (((σ 6 3) + 1) &&& 255)) 6 3 (w &&& 255) := by
    unfold kQ k_changeFlow
    rw [ho]
    rfl
  have hm : m_perform_100 (vK σ) w 8 ((w >>> ((9 : Int32) &&& 31)) &&& 7) ((w >>> ((6 : Int32) &&& 31)) &&& 7) ((w >>> ((3 : Int32) &&& 31)) &&& 7) (((vK σ 5 (ix 7)) + 1) &&& 255) = if ((vK (up2 σ 6 3 (((σ 6 3) + 1) &&& 255))) 5 (ix 10)) = 1 then up2 (vK (up2 σ 6 3 (((σ 6 3) + 1) &&& 255))) 5 (ix 7) (w &&& 255) else up2 (vK (up2 σ 6 3 (((σ 6 3) + 1) &&& 255))) 5 (ix 7) (((σ 6 3) + 1) &&& 255) := by
    rw [vK_6_3]
    rfl
  rw [hk, hm]
  have J1 : JJ (up2 σ 6 3 (((σ 6 3) + 1) &&& 255)) := JJ_6_3 hJ (b8_and _)
  have A1 : AE (up2 σ 6 3 (((σ 6 3) + 1) &&& 255)) := hA
  have F1 : (up2 σ 6 3 (((σ 6 3) + 1) &&& 255)) 0 14 = 0 := hf
  have N1 : (up2 σ 6 3 (((σ 6 3) + 1) &&& 255)) 6 3 = (((σ 6 3) + 1) &&& 255) := rfl
  clear hk hm
  generalize (up2 σ 6 3 (((σ 6 3) + 1) &&& 255)) = σ1 at *
  have M1 := mm_e A1 F1
  have X1 : XX σ1 := ⟨J1, A1, Or.inl F1⟩
  rw [show vK σ1 5 (ix 10) = σ1 6 4 from rfl]
  rcases JJ_zz J1 with z | z
  · rw [z, if_pos rfl, if_neg (by decide), ← N1, up2_same (show vK σ1 5 (ix 7) = σ1 6 3 from rfl)]
    exact ⟨fm_M M1, J1⟩
  · rw [z, if_neg (by decide), if_pos rfl]
    exact ⟨fm_M (mm_pc M1 (fun _ => rfl)), JJ_6_3 J1 (b8_and _)⟩
theorem perf_9 {σ : St} {w : Int32} (hJ : JJ σ) (hA : AE σ) (hf : σ 0 14 = 0) (ho : (w >>> ((12 : Int32) &&& 31)) = 9) : FM (kP σ w) (m_perform (vK σ) w) ∧ JJ (kP σ w) := by
  rw [mp_9 _ ho]
  by_cases hbad : ((w >>> ((6 : Int32) &&& 31)) &&& 7) = 7
  · exact perf_u hJ hA hf (kb_9 ho hbad) (mb_9 hbad)
  have hb : ¬ ((w >>> ((6 : Int32) &&& 31)) &&& 7) = 7 := fun z => hbad z
  rw [kP_k (ku_9 ho hb), mg_9 hb]
  have hk : kQ σ w = up2 (up2 (up2 σ 6 3 (((σ 6 3) + 1) &&& 255)) 8 (ix 6) ((up2 σ 6 3 (((σ 6 3) + 1) &&& 255)) 6 3)) 6 3 (((up2 σ 6 3 (((σ 6 3) + 1) &&& 255)) 8 (ix ((w >>> ((6 : Int32) &&& 31)) &&& 7))) &&& 255) := by
    unfold kQ k_changeFlow
    rw [ho]
    rfl
  have hm : m_perform_100 (vK σ) w 9 ((w >>> ((9 : Int32) &&& 31)) &&& 7) ((w >>> ((6 : Int32) &&& 31)) &&& 7) ((w >>> ((3 : Int32) &&& 31)) &&& 7) (((vK σ 5 (ix 7)) + 1) &&& 255) = up2 (up2 (vK (up2 σ 6 3 (((σ 6 3) + 1) &&& 255))) 5 (ix 6) (((σ 6 3) + 1) &&& 255)) 5 (ix 7) (((vK (up2 σ 6 3 (((σ 6 3) + 1) &&& 255))) 5 (ix ((w >>> ((6 : Int32) &&& 31)) &&& 7))) &&& 255) := by
    rw [vK_6_3]
    rfl
  rw [hk, hm]
  have J1 : JJ (up2 σ 6 3 (((σ 6 3) + 1) &&& 255)) := JJ_6_3 hJ (b8_and _)
  have A1 : AE (up2 σ 6 3 (((σ 6 3) + 1) &&& 255)) := hA
  have F1 : (up2 σ 6 3 (((σ 6 3) + 1) &&& 255)) 0 14 = 0 := hf
  have N1 : (up2 σ 6 3 (((σ 6 3) + 1) &&& 255)) 6 3 = (((σ 6 3) + 1) &&& 255) := rfl
  clear hk hm
  generalize (up2 σ 6 3 (((σ 6 3) + 1) &&& 255)) = σ1 at *
  have M1 := mm_e A1 F1
  have X1 : XX σ1 := ⟨J1, A1, Or.inl F1⟩
  rw [vK_r (ix_lt7 hb), N1]
  exact ⟨fm_M (mm_pc (mm_r (k := ix 6) (by decide) M1 (fun _ => rfl)) (fun _ => rfl)), JJ_6_3 (JJ_8 J1 (b8_wd (b8_and _))) (b8_and _)⟩
theorem perf_10 {σ : St} {w : Int32} (hJ : JJ σ) (hA : AE σ) (hf : σ 0 14 = 0) (ho : (w >>> ((12 : Int32) &&& 31)) = 10) : FM (kP σ w) (m_perform (vK σ) w) ∧ JJ (kP σ w) := by
  rw [mp_10 _ ho]
  rw [kP_k (ku_10 ho), mg_10]
  have hk : kQ σ w = (up2 σ 6 3 (((σ 6 3) + 1) &&& 255)) := by
    unfold kQ k_changeFlow
    rw [ho]
    rfl
  have hm : m_perform_100 (vK σ) w 10 ((w >>> ((9 : Int32) &&& 31)) &&& 7) ((w >>> ((6 : Int32) &&& 31)) &&& 7) ((w >>> ((3 : Int32) &&& 31)) &&& 7) (((vK σ 5 (ix 7)) + 1) &&& 255) = (vK (up2 σ 6 3 (((σ 6 3) + 1) &&& 255))) := by
    rw [vK_6_3]
    rfl
  rw [hk, hm]
  have J1 : JJ (up2 σ 6 3 (((σ 6 3) + 1) &&& 255)) := JJ_6_3 hJ (b8_and _)
  have A1 : AE (up2 σ 6 3 (((σ 6 3) + 1) &&& 255)) := hA
  have F1 : (up2 σ 6 3 (((σ 6 3) + 1) &&& 255)) 0 14 = 0 := hf
  have N1 : (up2 σ 6 3 (((σ 6 3) + 1) &&& 255)) 6 3 = (((σ 6 3) + 1) &&& 255) := rfl
  clear hk hm
  generalize (up2 σ 6 3 (((σ 6 3) + 1) &&& 255)) = σ1 at *
  have M1 := mm_e A1 F1
  have X1 : XX σ1 := ⟨J1, A1, Or.inl F1⟩
  exact ⟨fm_M M1, J1⟩
theorem perf_11 {σ : St} {w : Int32} (hJ : JJ σ) (hA : AE σ) (hf : σ 0 14 = 0) (ho : (w >>> ((12 : Int32) &&& 31)) = 11) : FM (kP σ w) (m_perform (vK σ) w) ∧ JJ (kP σ w) := by
  rw [mp_11 _ ho]
  by_cases h0 : ¬ σ 6 5 = 0
  · exact perf_u hJ hA hf (kw_11 ho h0) (mo_11 h0 (JJ_zo hJ))
  have h0 : σ 6 5 = 0 := Classical.byContradiction h0
  by_cases hbad : ((w >>> ((6 : Int32) &&& 31)) &&& 7) = 7
  · exact perf_u hJ hA hf (kb_11 ho hbad) (mb_11 hbad)
  have hb : ¬ ((w >>> ((6 : Int32) &&& 31)) &&& 7) = 7 := fun z => hbad z
  rw [kP_k (ku_11 ho h0 hb), mg_11 h0 (JJ_zo hJ) hb]
  have hk : kQ σ w = up2 (up2 (up2 σ 6 3 (((σ 6 3) + 1) &&& 255)) 6 5 1) 6 3 (((up2 σ 6 3 (((σ 6 3) + 1) &&& 255)) 8 (ix ((w >>> ((6 : Int32) &&& 31)) &&& 7))) &&& 255) := by
    unfold kQ k_changeFlow
    rw [ho]
    rfl
  have hm : m_perform_100 (vK σ) w 11 ((w >>> ((9 : Int32) &&& 31)) &&& 7) ((w >>> ((6 : Int32) &&& 31)) &&& 7) ((w >>> ((3 : Int32) &&& 31)) &&& 7) (((vK σ 5 (ix 7)) + 1) &&& 255) = up2 (up2 (vK (up2 σ 6 3 (((σ 6 3) + 1) &&& 255))) 5 (ix 11) 1) 5 (ix 7) (((vK (up2 σ 6 3 (((σ 6 3) + 1) &&& 255))) 5 (ix ((w >>> ((6 : Int32) &&& 31)) &&& 7))) &&& 255) := by
    rw [vK_6_3]
    rfl
  rw [hk, hm]
  have J1 : JJ (up2 σ 6 3 (((σ 6 3) + 1) &&& 255)) := JJ_6_3 hJ (b8_and _)
  have A1 : AE (up2 σ 6 3 (((σ 6 3) + 1) &&& 255)) := hA
  have F1 : (up2 σ 6 3 (((σ 6 3) + 1) &&& 255)) 0 14 = 0 := hf
  have N1 : (up2 σ 6 3 (((σ 6 3) + 1) &&& 255)) 6 3 = (((σ 6 3) + 1) &&& 255) := rfl
  clear hk hm
  generalize (up2 σ 6 3 (((σ 6 3) + 1) &&& 255)) = σ1 at *
  have M1 := mm_e A1 F1
  have X1 : XX σ1 := ⟨J1, A1, Or.inl F1⟩
  rw [vK_r (ix_lt7 hb)]
  exact ⟨fm_M (mm_pc (mm_o M1) (fun _ => rfl)), JJ_6_3 (JJ_6_5 J1 (by decide)) (b8_and _)⟩
theorem perf_12 {σ : St} {w : Int32} (hJ : JJ σ) (hA : AE σ) (hf : σ 0 14 = 0) (ho : (w >>> ((12 : Int32) &&& 31)) = 12) : FM (kP σ w) (m_perform (vK σ) w) ∧ JJ (kP σ w) := by
  rw [mp_12 _ ho]
  by_cases h0 : ¬ σ 6 5 = 0
  · exact perf_u hJ hA hf (kw_12 ho h0) (mo_12 h0 (JJ_zo hJ))
  have h0 : σ 6 5 = 0 := Classical.byContradiction h0
  by_cases hbad : ((w >>> ((6 : Int32) &&& 31)) &&& 7) = 7
  · exact perf_u hJ hA hf (kb_12 ho hbad) (mb_12 hbad)
  have hb : ¬ ((w >>> ((6 : Int32) &&& 31)) &&& 7) = 7 := fun z => hbad z
  rw [kP_k (ku_12 ho h0 hb), mg_12 h0 (JJ_zo hJ) hb]
  have hk : kQ σ w = k_callOut (up2 σ 6 3 (((σ 6 3) + 1) &&& 255)) ((up2 σ 6 3 (((σ 6 3) + 1) &&& 255)) 8 (ix ((w >>> ((6 : Int32) &&& 31)) &&& 7))) := by
    unfold kQ k_changeFlow
    rw [ho]
    exact (bd_e rfl).trans ((if_pos (by decide)).trans ((if_neg (by decide)).trans ((if_neg (by decide)).trans ((if_neg (by decide)).trans ((if_neg (by decide)).trans ((if_pos rfl).trans ((bd_e rfl).trans (cf158 _))))))))
  have hm : m_perform_100 (vK σ) w 12 ((w >>> ((9 : Int32) &&& 31)) &&& 7) ((w >>> ((6 : Int32) &&& 31)) &&& 7) ((w >>> ((3 : Int32) &&& 31)) &&& 7) (((vK σ 5 (ix 7)) + 1) &&& 255) = m_outwards (vK (up2 σ 6 3 (((σ 6 3) + 1) &&& 255))) ((w >>> ((6 : Int32) &&& 31)) &&& 7) (((σ 6 3) + 1) &&& 255) 1 := by
    rw [vK_6_3]
    exact (bd_e rfl).trans ((if_neg (by decide)).trans ((if_neg (by decide)).trans ((if_neg (by decide)).trans ((if_neg (by decide)).trans ((if_neg (by decide)).trans ((if_neg (by decide)).trans ((if_neg (by decide)).trans ((if_neg (by decide)).trans ((if_neg (by decide)).trans ((if_neg (by decide)).trans ((if_neg (by decide)).trans ((if_neg (by decide)).trans ((if_pos rfl).trans ((bd_e rfl).trans (pf465 _)))))))))))))))
  rw [hk, hm]
  have J1 : JJ (up2 σ 6 3 (((σ 6 3) + 1) &&& 255)) := JJ_6_3 hJ (b8_and _)
  have A1 : AE (up2 σ 6 3 (((σ 6 3) + 1) &&& 255)) := hA
  have F1 : (up2 σ 6 3 (((σ 6 3) + 1) &&& 255)) 0 14 = 0 := hf
  have N1 : (up2 σ 6 3 (((σ 6 3) + 1) &&& 255)) 6 3 = (((σ 6 3) + 1) &&& 255) := rfl
  clear hk hm
  generalize (up2 σ 6 3 (((σ 6 3) + 1) &&& 255)) = σ1 at *
  have M1 := mm_e A1 F1
  have X1 : XX σ1 := ⟨J1, A1, Or.inl F1⟩
  rw [← N1]
  obtain ⟨e2, X2⟩ := push_eq X1 (v := σ1 6 3) (b8_wd (JJ_pc J1))
  obtain ⟨σ2, s2⟩ : ∃ z, z = k_push σ1 (σ1 6 3) := ⟨_, rfl⟩
  rw [← s2] at e2 X2
  have hc : k_callOut σ1 (σ1 8 (ix ((w >>> ((6 : Int32) &&& 31)) &&& 7))) = bd (k_push σ1 (σ1 6 3)) fun s1 => bd (k_push s1 4096) fun s2 => bd (up2 s2 8 (ix 6) 65520) fun s3 => bd (k_goOut s3 (σ1 8 (ix ((w >>> ((6 : Int32) &&& 31)) &&& 7)))) fun s4 => s4 := rfl
  have hm2 : m_outwards (vK σ1) ((w >>> ((6 : Int32) &&& 31)) &&& 7) (σ1 6 3) 1 = bd (m_push (vK σ1) (σ1 6 3)) fun s1 => bd (m_push s1 4096) fun s2 => bd (up2 s2 5 (ix 6) 65520) fun s3 => m_outwards_37 s3 ((vK σ1 5 (ix ((w >>> ((6 : Int32) &&& 31)) &&& 7))) &&& 255) := if_neg (by decide)
  rw [hc, hm2, vK_r (ix_lt7 hb), bd_e s2, bd_e e2.symm]
  obtain ⟨e3, X3⟩ := push_eq X2 (v := 4096) (by decide)
  obtain ⟨σ3, s3⟩ : ∃ z, z = k_push σ2 4096 := ⟨_, rfl⟩
  rw [← s3] at e3 X3
  rw [bd_e s3, bd_e e3.symm]
  have f1 : (bd (up2 σ3 8 (ix 6) 65520) fun s3 => bd (k_goOut s3 (σ1 8 (ix ((w >>> ((6 : Int32) &&& 31)) &&& 7)))) fun s4 => s4) = up2 (up2 (up2 σ3 8 (ix 6) 65520) 6 5 1) 6 3 ((σ1 8 (ix ((w >>> ((6 : Int32) &&& 31)) &&& 7))) &&& 255) := rfl
  have f2 : (bd (up2 (vK σ3) 5 (ix 6) 65520) fun s3 => m_outwards_37 s3 ((σ1 8 (ix ((w >>> ((6 : Int32) &&& 31)) &&& 7))) &&& 255)) = up2 (up2 (up2 (vK σ3) 5 (ix 6) 65520) 5 11 1) 5 7 ((σ1 8 (ix ((w >>> ((6 : Int32) &&& 31)) &&& 7))) &&& 255) := rfl
  rw [f1, f2]
  exact ⟨fm_M (mm_pc (mm_o (mm_r (k := ix 6) (by decide) (mm_X X3) (fun _ => rfl))) (fun _ => rfl)), JJ_6_3 (JJ_6_5 (JJ_8 X3.1 (by decide)) (by decide)) (b8_and _)⟩
theorem perf_13 {σ : St} {w : Int32} (hJ : JJ σ) (hA : AE σ) (hf : σ 0 14 = 0) (ho : (w >>> ((12 : Int32) &&& 31)) = 13) : FM (kP σ w) (m_perform (vK σ) w) ∧ JJ (kP σ w) := by
  rw [mp_13 _ ho]
  rw [kP_k (ku_13 ho), mg_13]
  have hk : kQ σ w = k_goBack (up2 σ 6 3 (((σ 6 3) + 1) &&& 255)) := by
    unfold kQ k_changeFlow
    rw [ho]
    rfl
  have hm : m_perform_100 (vK σ) w 13 ((w >>> ((9 : Int32) &&& 31)) &&& 7) ((w >>> ((6 : Int32) &&& 31)) &&& 7) ((w >>> ((3 : Int32) &&& 31)) &&& 7) (((vK σ 5 (ix 7)) + 1) &&& 255) = m_returns (vK (up2 σ 6 3 (((σ 6 3) + 1) &&& 255))) := by
    rw [vK_6_3]
    rfl
  rw [hk, hm]
  have J1 : JJ (up2 σ 6 3 (((σ 6 3) + 1) &&& 255)) := JJ_6_3 hJ (b8_and _)
  have A1 : AE (up2 σ 6 3 (((σ 6 3) + 1) &&& 255)) := hA
  have F1 : (up2 σ 6 3 (((σ 6 3) + 1) &&& 255)) 0 14 = 0 := hf
  have N1 : (up2 σ 6 3 (((σ 6 3) + 1) &&& 255)) 6 3 = (((σ 6 3) + 1) &&& 255) := rfl
  clear hk hm
  generalize (up2 σ 6 3 (((σ 6 3) + 1) &&& 255)) = σ1 at *
  have M1 := mm_e A1 F1
  have X1 : XX σ1 := ⟨J1, A1, Or.inl F1⟩
  exact retn J1 A1 F1
theorem perf_14 {σ : St} {w : Int32} (hJ : JJ σ) (hA : AE σ) (hf : σ 0 14 = 0) (ho : (w >>> ((12 : Int32) &&& 31)) = 14) : FM (kP σ w) (m_perform (vK σ) w) ∧ JJ (kP σ w) := by
  rw [mp_14 _ ho]
  rw [kP_k (ku_14 ho), mg_14]
  have hk : kQ σ w = up2 (up2 σ 6 3 (((σ 6 3) + 1) &&& 255)) 0 12 (((up2 σ 6 3 (((σ 6 3) + 1) &&& 255)) 0 12) ||| ((1 : Int32) <<< ((3 + ((w >>> ((3 : Int32) &&& 31)) &&& 3)) &&& 31))) := by
    unfold kQ k_changeFlow
    rw [ho]
    rfl
  have hm : m_perform_100 (vK σ) w 14 ((w >>> ((9 : Int32) &&& 31)) &&& 7) ((w >>> ((6 : Int32) &&& 31)) &&& 7) ((w >>> ((3 : Int32) &&& 31)) &&& 7) (((vK σ 5 (ix 7)) + 1) &&& 255) = up2 (vK (up2 σ 6 3 (((σ 6 3) + 1) &&& 255))) 0 12 (((vK (up2 σ 6 3 (((σ 6 3) + 1) &&& 255))) 0 12) ||| ((1 : Int32) <<< ((3 + (((w >>> ((3 : Int32) &&& 31)) &&& 7) - ((w >>> ((3 : Int32) &&& 31)) &&& 7) / 4 * 4)) &&& 31))) := by
    rw [vK_6_3]
    rfl
  rw [hk, hm]
  have J1 : JJ (up2 σ 6 3 (((σ 6 3) + 1) &&& 255)) := JJ_6_3 hJ (b8_and _)
  have A1 : AE (up2 σ 6 3 (((σ 6 3) + 1) &&& 255)) := hA
  have F1 : (up2 σ 6 3 (((σ 6 3) + 1) &&& 255)) 0 14 = 0 := hf
  have N1 : (up2 σ 6 3 (((σ 6 3) + 1) &&& 255)) 6 3 = (((σ 6 3) + 1) &&& 255) := rfl
  clear hk hm
  generalize (up2 σ 6 3 (((σ 6 3) + 1) &&& 255)) = σ1 at *
  have M1 := mm_e A1 F1
  have X1 : XX σ1 := ⟨J1, A1, Or.inl F1⟩
  rw [c4, show vK σ1 0 12 = σ1 0 12 from rfl, ← vK_0_12]
  exact ⟨Or.inl ⟨F1, rfl⟩, JJ_0 J1⟩
theorem perf_15 {σ : St} {w : Int32} (hJ : JJ σ) (hA : AE σ) (hf : σ 0 14 = 0) (ho : (w >>> ((12 : Int32) &&& 31)) = 15) : FM (kP σ w) (m_perform (vK σ) w) ∧ JJ (kP σ w) := by
  rw [mp_15 _ ho]
  by_cases h0 : ¬ σ 6 5 = 0
  · exact perf_u hJ hA hf (kw_15 ho h0) (mo_15 h0 (JJ_zo hJ))
  have h0 : σ 6 5 = 0 := Classical.byContradiction h0
  rw [kP_k (ku_15 ho h0), mg_15 h0 (JJ_zo hJ)]
  have hk : kQ σ w = up2 (up2 σ 6 3 (((σ 6 3) + 1) &&& 255)) 0 11 1 := by
    unfold kQ k_changeFlow
    rw [ho]
    rfl
  have hm : m_perform_100 (vK σ) w 15 ((w >>> ((9 : Int32) &&& 31)) &&& 7) ((w >>> ((6 : Int32) &&& 31)) &&& 7) ((w >>> ((3 : Int32) &&& 31)) &&& 7) (((vK σ 5 (ix 7)) + 1) &&& 255) = up2 (vK (up2 σ 6 3 (((σ 6 3) + 1) &&& 255))) 0 11 1 := by
    rw [vK_6_3]
    rfl
  rw [hk, hm]
  have J1 : JJ (up2 σ 6 3 (((σ 6 3) + 1) &&& 255)) := JJ_6_3 hJ (b8_and _)
  have A1 : AE (up2 σ 6 3 (((σ 6 3) + 1) &&& 255)) := hA
  have F1 : (up2 σ 6 3 (((σ 6 3) + 1) &&& 255)) 0 14 = 0 := hf
  have N1 : (up2 σ 6 3 (((σ 6 3) + 1) &&& 255)) 6 3 = (((σ 6 3) + 1) &&& 255) := rfl
  clear hk hm
  generalize (up2 σ 6 3 (((σ 6 3) + 1) &&& 255)) = σ1 at *
  have M1 := mm_e A1 F1
  have X1 : XX σ1 := ⟨J1, A1, Or.inl F1⟩
  rw [← vK_0_11]
  exact ⟨Or.inl ⟨F1, rfl⟩, JJ_0 J1⟩
theorem op_cases {w : Int32} (hw : wd w) : ∃ j : Nat, j < 16 ∧ (w >>> ((12 : Int32) &&& 31)) = nI j := by
  have e := nat_nI w
  have hw : w.toBitVec.toNat < 65536 := hw
  generalize w.toBitVec.toNat = n at *
  subst e
  refine ⟨n / 4096, by omega, ?_⟩
  exact pk_shrN (by omega) _ 12 (by decide)
theorem perf {σ : St} {w : Int32} (hJ : JJ σ) (hA : AE σ) (hf : σ 0 14 = 0) (hw : wd w) : FM (kP σ w) (m_perform (vK σ) w) ∧ JJ (kP σ w) := by
  obtain ⟨j, hj, ho⟩ := op_cases hw
  match j, hj, ho with
  | 0, _, ho => exact perf_0 hJ hA hf ho
  | 1, _, ho => exact perf_1 hJ hA hf ho
  | 2, _, ho => exact perf_2 hJ hA hf ho
  | 3, _, ho => exact perf_3 hJ hA hf ho
  | 4, _, ho => exact perf_4 hJ hA hf ho
  | 5, _, ho => exact perf_5 hJ hA hf ho
  | 6, _, ho => exact perf_6 hJ hA hf ho
  | 7, _, ho => exact perf_7 hJ hA hf ho
  | 8, _, ho => exact perf_8 hJ hA hf ho
  | 9, _, ho => exact perf_9 hJ hA hf ho
  | 10, _, ho => exact perf_10 hJ hA hf ho
  | 11, _, ho => exact perf_11 hJ hA hf ho
  | 12, _, ho => exact perf_12 hJ hA hf ho
  | 13, _, ho => exact perf_13 hJ hA hf ho
  | 14, _, ho => exact perf_14 hJ hA hf ho
  | 15, _, ho => exact perf_15 hJ hA hf ho
  | j + 16, hj, _ => exact absurd hj (by omega)
