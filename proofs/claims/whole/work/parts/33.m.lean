set_option maxRecDepth 100000 in
set_option maxHeartbeats 4000000 in
theorem c_m_instruction (l : Launch) (D : va_G) (q : Nat → Nat) (cA : ClassId) (σ0 : St) (hpc_σ0 : pcOK σ0) : Met l yM_instruction wsM_instruction { frames := 7, cells := 0, slots := 0, locals := 162 } (va_Pc [.ref (q 0)] (MPre D q cA σ0)) (va_Qv (fun u => u = m_instruction σ0) (MPost D q cA) (MA q)) 0 0 (MA q) := by
  refine Met.ofW (cc := cM_instruction) (maxL := 5) (ret := none) (by decide) rfl ?_
  intro p e s m args below meth c s₁ B hml hv
  obtain ⟨rfl, hP, hB, hC⟩ := hv
  have hx := B.exec
  have hb := B.bytes
  have hr := B.returns
  have hts : ∀ w ∈ gw, w.before ([.ref (q 0)] : List Value).toArray s = true := fun w h => atoms_spec (ws := wsM_instruction) B.pre w (List.mem_cons_of_mem _ h)
  have hown : s.vm.findClass RM = some m.cls := findClass_of_methodNamed B.named
  have hlocks := B.notSynchronized
  have hS : va_S (MA q) s.heap s.heap [] := va_S.rf
  have hl := lv_entry ([.ref (q 0)]) (n := 5) (Nat.le_of_ble_eq_true rfl)
  rw [lg_entry_eq]
  generalize (lg_sl ([.ref (q 0)]) ++ List.replicate (5 - (lg_sl ([.ref (q 0)])).length) Slot.unset).toArray = ls at hl ⊢
  have hl : lv_has ls 5 [(0, .ref (q 0))] := hl
  have hE : m_instruction σ0 = m_instruction σ0 := rfl
  have b145 : ∀ (H : Heap) (locs : List Loc) (ls : Array Slot) (σ : St), m_instruction σ0 = m_instruction_145 σ → lv_has ls 5 [] → va_P D vwCl (wsM q cA σ) H → MB σ → va_S (MA q) s.heap H locs → W p l e (headSpec wsM_instruction { frames := 7, cells := 0, slots := 0, locals := 162 }).room s m ([.ref (q 0)] : List Value).toArray below meth c H locs 0 0 (MQ below (va_Qv (fun u => u = m_instruction σ0) (MPost D q cA) (MA q)) ([.ref (q 0)] : List Value).toArray s 0 0 (MA q)) (F0 m 145 ls []) := by
    intro H locs ls σ hE hl hP hB hS
    exact W.vret hx hb hr (fun t ht hW => ⟨⟨σ, rfl, hE.symm, ⟨by rw [ht]; exact hP, hB⟩⟩, hS.F ht⟩) hS.2.2 dM_instruction_145
  have b134 : ∀ (H : Heap) (locs : List Loc) (ls : Array Slot) (σ : St), m_instruction σ0 = m_instruction_134 σ → lv_has ls 5 [(0, .ref (q 0))] → va_P D vwCl (wsM q cA σ) H → MB σ → va_S (MA q) s.heap H locs → W p l e (headSpec wsM_instruction { frames := 7, cells := 0, slots := 0, locals := 162 }).room s m ([.ref (q 0)] : List Value).toArray below meth c H locs 0 0 (MQ below (va_Qv (fun u => u = m_instruction σ0) (MPost D q cA) (MA q)) ([.ref (q 0)] : List Value).toArray s 0 0 (MA q)) (F0 m 134 ls []) := by
    intro H locs ls σ hE hl hP hB hS
    refine lv_aload_n hx hb dM_instruction_134 rfl (lv_at hl 0 rfl) ?_
    refine mget_0_14 hx hb hts inM hown hC hP (hts _ wM_f58) dM_instruction_135 ?_
    refine lv_if_eq (tgt := 145) hx hb dM_instruction_138 rfl (fun h14 => ?_) (fun h14 => ?_)
    · have hE := hE.trans (if_pos h14)
      have hl := lv_sub hl [] rfl
      exact b145 _ _ _ _ hE hl hP hB hS
    · have hE := hE.trans (if_neg h14)
      refine lv_aload_n hx hb dM_instruction_141 rfl (lv_at hl 0 rfl) ?_
      refine mcallv (rest := []) ⟨hx, hb, hml, hown, hts⟩ hC hP hB hS (c_m_fault l D q cA σ) (cwV 0 hts gM_131 rfl rfl rfl hdM_fault ⟨Nat.le_of_ble_eq_true rfl, Nat.le_of_ble_eq_true rfl⟩) (mrv_0 hC hP) rfl hl.1 rfl (Nat.le_of_ble_eq_true rfl) dM_instruction_142 (fun σ15 H locs e15 hP hB hS => ?_)
      have hE := hE.trans (bd_e e15)
      have hl := lv_sub hl [] rfl
      exact b145 _ _ _ _ hE hl hP hB hS
  have b116 : ∀ (H : Heap) (locs : List Loc) (ls : Array Slot) (σ : St) (x1 : Int32) (x4 : Int32), m_instruction σ0 = m_instruction_116 σ x1 x4 → lv_has ls 5 [(0, .ref (q 0)), (1, .int x1), (4, .int x4)] → va_P D vwCl (wsM q cA σ) H → MB σ → va_S (MA q) s.heap H locs → W p l e (headSpec wsM_instruction { frames := 7, cells := 0, slots := 0, locals := 162 }).room s m ([.ref (q 0)] : List Value).toArray below meth c H locs 0 0 (MQ below (va_Qv (fun u => u = m_instruction σ0) (MPost D q cA) (MA q)) ([.ref (q 0)] : List Value).toArray s 0 0 (MA q)) (F0 m 116 ls []) := by
    intro H locs ls σ x1 x4 hE hl hP hB hS
    refine lv_iload hx hb dM_instruction_116 (lv_at hl 2 rfl) ?_
    refine lv_if_eq (tgt := 129) hx hb dM_instruction_118 rfl (fun h12 => ?_) (fun h12 => ?_)
    · have hE := hE.trans (if_pos h12)
      refine lv_aload_n hx hb dM_instruction_129 rfl (lv_at hl 0 rfl) ?_
      refine lv_iconst (v := 2) hx hb dM_instruction_130 (by decide) ?_
      refine mcallv (rest := []) ⟨hx, hb, hml, hown, hts⟩ hC hP hB hS (c_m_speak l D q cA σ 2) (cwV 1 hts gM_72 rfl rfl rfl hdM_speak ⟨Nat.le_of_ble_eq_true rfl, Nat.le_of_ble_eq_true rfl⟩) (mrv_0 hC hP) rfl hl.1 rfl (Nat.le_of_ble_eq_true rfl) dM_instruction_131 (fun σ13 H locs e13 hP hB hS => ?_)
      have hE := hE.trans (bd_e e13)
      have hl := lv_sub hl [0] rfl
      exact b134 _ _ _ _ hE hl hP hB hS
    · have hE := hE.trans (if_neg h12)
      refine lv_aload_n hx hb dM_instruction_121 rfl (lv_at hl 0 rfl) ?_
      refine lv_iload_n hx hb dM_instruction_122 rfl (lv_at hl 1 rfl) ?_
      refine mcallv (rest := []) ⟨hx, hb, hml, hown, hts⟩ hC hP hB hS (c_m_perform l D q cA σ x1) (cwV 1 hts gM_128 rfl rfl rfl hdM_perform ⟨Nat.le_of_ble_eq_true rfl, Nat.le_of_ble_eq_true rfl⟩) (mrv_0 hC hP) rfl hl.1 rfl (Nat.le_of_ble_eq_true rfl) dM_instruction_123 (fun σ16 H locs e16 hP hB hS => ?_)
      have hE := hE.trans (bd_e e16)
      refine lv_goto (tgt := 134) hx hb dM_instruction_126 rfl ?_
      have hl := lv_sub hl [0] rfl
      exact b134 _ _ _ _ hE hl hP hB hS
  have b90 : ∀ (H : Heap) (locs : List Loc) (ls : Array Slot) (σ : St) (x1 : Int32) (x3 : Int32) (y0 : Int32), m_instruction σ0 = m_instruction_90 σ x1 x3 y0 → lv_has ls 5 [(0, .ref (q 0)), (1, .int x1), (3, .int x3)] → va_P D vwCl (wsM q cA σ) H → MB σ → va_S (MA q) s.heap H locs → W p l e (headSpec wsM_instruction { frames := 7, cells := 0, slots := 0, locals := 162 }).room s m ([.ref (q 0)] : List Value).toArray below meth c H locs 0 0 (MQ below (va_Qv (fun u => u = m_instruction σ0) (MPost D q cA) (MA q)) ([.ref (q 0)] : List Value).toArray s 0 0 (MA q)) (F0 m 90 ls [.int y0]) := by
    intro H locs ls σ x1 x3 y0 hE hl hP hB hS
    refine lv_istore (lv' := [(4, .int y0), (0, .ref (q 0)), (1, .int x1), (3, .int x3)]) hx hb dM_instruction_90 hl (by decide) rfl (fun ls hl => ?_)
    refine lv_iload_n hx hb dM_instruction_92 rfl (lv_at hl 3 rfl) ?_
    refine lv_if_eq (tgt := 116) hx hb dM_instruction_93 rfl (fun h11 => ?_) (fun h11 => ?_)
    · have hE := hE.trans (if_pos h11)
      have hl := lv_sub hl [1, 2, 0] rfl
      exact b116 _ _ _ _ x1 y0 hE hl hP hB hS
    · have hE := hE.trans (if_neg h11)
      refine lv_aload_n hx hb dM_instruction_96 rfl (lv_at hl 1 rfl) ?_
      refine mget_0_8 hx hb hts inM hown hC hP (hts _ wM_f26) dM_instruction_97 ?_
      refine lv_bipush (v := 11) hx hb dM_instruction_100 (by decide) ?_
      refine lv_iconst (v := 0) hx hb dM_instruction_102 (by decide) ?_
      refine mast_5 hx hb hC hP hS (vin_c (by decide)) dM_instruction_103 (fun σ17 H locs e17 hP hS => ?_)
      have hE := hE.trans (bd_e e17)
      have hB : MB σ17 := by rw [e17]; exact hB
      refine lv_aload_n hx hb dM_instruction_104 rfl (lv_at hl 1 rfl) ?_
      refine mget_0_8 hx hb hts inM hown hC hP (hts _ wM_f26) dM_instruction_105 ?_
      refine lv_bipush (v := 6) hx hb dM_instruction_108 (by decide) ?_
      refine lv_dup2_11 hx hb dM_instruction_110 rfl rfl ?_
      refine mald_5 hx hb hC hP (vin_c (by decide)) dM_instruction_111 ?_
      refine lv_ldc (v := 32768) hx hb hown (hts _ wM_c109) dM_instruction_112 ?_
      refine lv_ior hx hb dM_instruction_114 ?_
      refine mast_5 hx hb hC hP hS (vin_c (by decide)) dM_instruction_115 (fun σ18 H locs e18 hP hS => ?_)
      have hE := hE.trans (bd_e e18)
      have hB : MB σ18 := by rw [e18]; exact hB
      have hl := lv_sub hl [1, 2, 0] rfl
      exact b116 _ _ _ _ x1 y0 hE hl hP hB hS
  have b72 : ∀ (H : Heap) (locs : List Loc) (ls : Array Slot) (σ : St) (x1 : Int32) (x3 : Int32), m_instruction σ0 = m_instruction_72 σ x1 x3 → lv_has ls 5 [(0, .ref (q 0)), (1, .int x1), (3, .int x3)] → va_P D vwCl (wsM q cA σ) H → MB σ → va_S (MA q) s.heap H locs → W p l e (headSpec wsM_instruction { frames := 7, cells := 0, slots := 0, locals := 162 }).room s m ([.ref (q 0)] : List Value).toArray below meth c H locs 0 0 (MQ below (va_Qv (fun u => u = m_instruction σ0) (MPost D q cA) (MA q)) ([.ref (q 0)] : List Value).toArray s 0 0 (MA q)) (F0 m 72 ls []) := by
    intro H locs ls σ x1 x3 hE hl hP hB hS
    refine lv_iconst (v := 1) hx hb dM_instruction_72 (by decide) ?_
    refine lv_goto (tgt := 90) hx hb dM_instruction_73 rfl ?_
    exact b90 _ _ _ _ x1 x3 1 hE hl hP hB hS
  have b55 : ∀ (H : Heap) (locs : List Loc) (ls : Array Slot) (σ : St) (x1 : Int32) (x2 : Int32) (y0 : Int32), m_instruction σ0 = m_instruction_55 σ x1 x2 y0 → lv_has ls 5 [(0, .ref (q 0)), (1, .int x1), (2, .int x2)] → va_P D vwCl (wsM q cA σ) H → MB σ → va_S (MA q) s.heap H locs → W p l e (headSpec wsM_instruction { frames := 7, cells := 0, slots := 0, locals := 162 }).room s m ([.ref (q 0)] : List Value).toArray below meth c H locs 0 0 (MQ below (va_Qv (fun u => u = m_instruction σ0) (MPost D q cA) (MA q)) ([.ref (q 0)] : List Value).toArray s 0 0 (MA q)) (F0 m 55 ls [.int y0]) := by
    intro H locs ls σ x1 x2 y0 hE hl hP hB hS
    refine lv_istore_n (lv' := [(3, .int y0), (0, .ref (q 0)), (1, .int x1), (2, .int x2)]) hx hb dM_instruction_55 rfl hl (by decide) rfl (fun ls hl => ?_)
    refine lv_aload_n hx hb dM_instruction_56 rfl (lv_at hl 1 rfl) ?_
    refine mcalli (rest := []) ⟨hx, hb, hml, hown, hts⟩ hC hP hB hS (c_m_isOpenWorld l D q cA σ) (cwV 0 hts gM_61 rfl rfl rfl hdM_isOpenWorld ⟨Nat.le_of_ble_eq_true rfl, Nat.le_of_ble_eq_true rfl⟩) (mrv_0 hC hP) rfl hl.1 rfl (Nat.le_of_ble_eq_true rfl) dM_instruction_57 (fun σ7 v8 H locs e7 hP hB hS => ?_)
    have z7 : zb v8 := e7.2
    have hE := hE.trans (bd2_e e7.1)
    refine lv_if_eq (tgt := 80) hx hb dM_instruction_60 rfl (fun h9 => ?_) (fun h9 => ?_)
    · have hE := hE.trans (if_pos h9)
      refine lv_iload_n hx hb dM_instruction_80 rfl (lv_at hl 3 rfl) ?_
      refine lv_iconst (v := 1) hx hb dM_instruction_81 (by decide) ?_
      refine lv_icmp_eq (tgt := 89) hx hb dM_instruction_82 rfl (fun h10 => ?_) (fun h10 => ?_)
      · have hE := hE.trans (if_pos h10)
        refine lv_iconst (v := 0) hx hb dM_instruction_89 (by decide) ?_
        have hl := lv_sub hl [1, 2, 0] rfl
        exact b90 _ _ _ _ x1 y0 0 hE hl hP hB hS
      · have hE := hE.trans (if_neg h10)
        refine lv_iconst (v := 1) hx hb dM_instruction_85 (by decide) ?_
        refine lv_goto (tgt := 90) hx hb dM_instruction_86 rfl ?_
        have hl := lv_sub hl [1, 2, 0] rfl
        exact b90 _ _ _ _ x1 y0 1 hE hl hP hB hS
    · have hE := hE.trans (if_neg h9)
      refine lv_iload_n hx hb dM_instruction_63 rfl (lv_at hl 3 rfl) ?_
      refine lv_iconst (v := 1) hx hb dM_instruction_64 (by decide) ?_
      refine lv_icmp_eq (tgt := 72) hx hb dM_instruction_65 rfl (fun h19 => ?_) (fun h19 => ?_)
      · have hE := hE.trans (if_pos h19)
        have hl := lv_sub hl [1, 2, 0] rfl
        exact b72 _ _ _ _ x1 y0 hE hl hP hB hS
      · have hE := hE.trans (if_neg h19)
        refine lv_iload_n hx hb dM_instruction_68 rfl (lv_at hl 0 rfl) ?_
        refine lv_if_eq (tgt := 76) hx hb dM_instruction_69 rfl (fun h20 => ?_) (fun h20 => ?_)
        · have hE := hE.trans (if_pos h20)
          refine lv_iconst (v := 0) hx hb dM_instruction_76 (by decide) ?_
          refine lv_goto (tgt := 90) hx hb dM_instruction_77 rfl ?_
          have hl := lv_sub hl [1, 2, 0] rfl
          exact b90 _ _ _ _ x1 y0 0 hE hl hP hB hS
        · have hE := hE.trans (if_neg h20)
          have hl := lv_sub hl [1, 2, 0] rfl
          exact b72 _ _ _ _ x1 y0 hE hl hP hB hS
  have b54 : ∀ (H : Heap) (locs : List Loc) (ls : Array Slot) (σ : St) (x1 : Int32) (x2 : Int32), m_instruction σ0 = m_instruction_54 σ x1 x2 → lv_has ls 5 [(0, .ref (q 0)), (1, .int x1), (2, .int x2)] → va_P D vwCl (wsM q cA σ) H → MB σ → va_S (MA q) s.heap H locs → W p l e (headSpec wsM_instruction { frames := 7, cells := 0, slots := 0, locals := 162 }).room s m ([.ref (q 0)] : List Value).toArray below meth c H locs 0 0 (MQ below (va_Qv (fun u => u = m_instruction σ0) (MPost D q cA) (MA q)) ([.ref (q 0)] : List Value).toArray s 0 0 (MA q)) (F0 m 54 ls []) := by
    intro H locs ls σ x1 x2 hE hl hP hB hS
    refine lv_iconst (v := 0) hx hb dM_instruction_54 (by decide) ?_
    exact b55 _ _ _ _ x1 x2 0 hE hl hP hB hS
  refine lv_aload_n hx hb dM_instruction_0 rfl (lv_at hl 0 rfl) ?_
  refine mcallv (rest := []) ⟨hx, hb, hml, hown, hts⟩ hC hP hB hS (c_m_keep l D q cA σ0) (cwV 0 hts gM_87 rfl rfl rfl hdM_keep ⟨Nat.le_of_ble_eq_true rfl, Nat.le_of_ble_eq_true rfl⟩) (mrv_0 hC hP) rfl hl.1 rfl (Nat.le_of_ble_eq_true rfl) dM_instruction_1 (fun σ1 H locs e1 hP hB hS => ?_)
  have hE := hE.trans (bd_e e1)
  refine lv_aload_n hx hb dM_instruction_4 rfl (lv_at hl 0 rfl) ?_
  refine mget_0_0 hx hb hts inM hown hC hP (hts _ wM_f7) dM_instruction_5 ?_
  refine lv_aload_n hx hb dM_instruction_8 rfl (lv_at hl 0 rfl) ?_
  refine mget_0_8 hx hb hts inM hown hC hP (hts _ wM_f26) dM_instruction_9 ?_
  refine lv_bipush (v := 7) hx hb dM_instruction_12 (by decide) ?_
  refine mald_5 hx hb hC hP (vin_c (by decide)) dM_instruction_14 ?_
  refine mald_1 hx hb hC hP (pc_m_keep e1 hpc_σ0) dM_instruction_15 ?_
  refine lv_istore_n (lv' := [(1, .int (σ1 1 (ix (σ1 5 (ix 7))))), (0, .ref (q 0))]) hx hb dM_instruction_16 rfl hl (by decide) rfl (fun ls hl => ?_)
  refine lv_aload_n hx hb dM_instruction_17 rfl (lv_at hl 1 rfl) ?_
  refine lv_aload_n hx hb dM_instruction_18 rfl (lv_at hl 1 rfl) ?_
  refine mget_0_8 hx hb hts inM hown hC hP (hts _ wM_f26) dM_instruction_19 ?_
  refine lv_bipush (v := 7) hx hb dM_instruction_22 (by decide) ?_
  refine mald_5 hx hb hC hP (vin_c (by decide)) dM_instruction_24 ?_
  refine mcalli (rest := []) ⟨hx, hb, hml, hown, hts⟩ hC hP hB hS (c_m_kindAt l D q cA σ1 (σ1 5 (ix 7))) (cwV 1 hts gM_65 rfl rfl rfl hdM_kindAt ⟨Nat.le_of_ble_eq_true rfl, Nat.le_of_ble_eq_true rfl⟩) (mrv_0 hC hP) rfl hl.1 rfl (Nat.le_of_ble_eq_true rfl) dM_instruction_25 (fun σ2 v3 H locs e2 hP hB hS => ?_)
  have hE := hE.trans (bd2_e e2)
  refine lv_istore_n (lv' := [(2, .int v3), (1, .int (σ1 1 (ix (σ1 5 (ix 7))))), (0, .ref (q 0))]) hx hb dM_instruction_28 rfl hl (by decide) rfl (fun ls hl => ?_)
  refine lv_aload_n hx hb dM_instruction_29 rfl (lv_at hl 2 rfl) ?_
  refine mcalli (rest := []) ⟨hx, hb, hml, hown, hts⟩ hC hP hB hS (c_m_isOpenWorld l D q cA σ2) (cwV 0 hts gM_61 rfl rfl rfl hdM_isOpenWorld ⟨Nat.le_of_ble_eq_true rfl, Nat.le_of_ble_eq_true rfl⟩) (mrv_0 hC hP) rfl hl.1 rfl (Nat.le_of_ble_eq_true rfl) dM_instruction_30 (fun σ4 v5 H locs e4 hP hB hS => ?_)
  have z4 : zb v5 := e4.2
  have hE := hE.trans (bd2_e e4.1)
  refine lv_if_eq (tgt := 54) hx hb dM_instruction_33 rfl (fun h6 => ?_) (fun h6 => ?_)
  · have hE := hE.trans (if_pos h6)
    have hl := lv_sub hl [2, 1, 0] rfl
    exact b54 _ _ _ _ (σ1 1 (ix (σ1 5 (ix 7)))) v3 hE hl hP hB hS
  · have hE := hE.trans (if_neg h6)
    refine lv_iload_n hx hb dM_instruction_36 rfl (lv_at hl 0 rfl) ?_
    refine lv_iconst (v := 2) hx hb dM_instruction_37 (by decide) ?_
    refine lv_icmp_ne (tgt := 54) hx hb dM_instruction_38 rfl (fun h21 => ?_) (fun h21 => ?_)
    · have hE := hE.trans (if_neg h21)
      have hl := lv_sub hl [2, 1, 0] rfl
      exact b54 _ _ _ _ (σ1 1 (ix (σ1 5 (ix 7)))) v3 hE hl hP hB hS
    · have hE := hE.trans (if_pos h21)
      refine lv_iload_n hx hb dM_instruction_41 rfl (lv_at hl 1 rfl) ?_
      refine lv_bipush (v := 12) hx hb dM_instruction_42 (by decide) ?_
      refine lv_ishr hx hb dM_instruction_44 ?_
      refine lv_bipush (v := 10) hx hb dM_instruction_45 (by decide) ?_
      refine lv_icmp_ne (tgt := 54) hx hb dM_instruction_47 rfl (fun h22 => ?_) (fun h22 => ?_)
      · have hE := hE.trans (if_neg h22)
        have hl := lv_sub hl [2, 1, 0] rfl
        exact b54 _ _ _ _ (σ1 1 (ix (σ1 5 (ix 7)))) v3 hE hl hP hB hS
      · have hE := hE.trans (if_pos h22)
        refine lv_iconst (v := 1) hx hb dM_instruction_50 (by decide) ?_
        refine lv_goto (tgt := 55) hx hb dM_instruction_51 rfl ?_
        have hl := lv_sub hl [2, 1, 0] rfl
        exact b55 _ _ _ _ (σ1 1 (ix (σ1 5 (ix 7)))) v3 1 hE hl hP hB hS
set_option maxRecDepth 100000 in
set_option maxHeartbeats 4000000 in
theorem c_m_step (l : Launch) (D : va_G) (q : Nat → Nat) (cA : ClassId) (σ0 : St) (hpc_σ0 : pcOK σ0) : Met l yM_step wsM_step { frames := 8, cells := 0, slots := 0, locals := 186 } (va_Pc [.ref (q 0)] (MPre D q cA σ0)) (va_Qv (fun u => u = m_step σ0) (MPost D q cA) (MA q)) 0 0 (MA q) := by
  refine Met.ofW (cc := cM_step) (maxL := 3) (ret := none) (by decide) rfl ?_
  intro p e s m args below meth c s₁ B hml hv
  obtain ⟨rfl, hP, hB, hC⟩ := hv
  have hx := B.exec
  have hb := B.bytes
  have hr := B.returns
  have hts : ∀ w ∈ gw, w.before ([.ref (q 0)] : List Value).toArray s = true := fun w h => atoms_spec (ws := wsM_step) B.pre w (List.mem_cons_of_mem _ h)
  have hown : s.vm.findClass RM = some m.cls := findClass_of_methodNamed B.named
  have hlocks := B.notSynchronized
  have hS : va_S (MA q) s.heap s.heap [] := va_S.rf
  have hl := lv_entry ([.ref (q 0)]) (n := 3) (Nat.le_of_ble_eq_true rfl)
  rw [lg_entry_eq]
  generalize (lg_sl ([.ref (q 0)]) ++ List.replicate (3 - (lg_sl ([.ref (q 0)])).length) Slot.unset).toArray = ls at hl ⊢
  have hl : lv_has ls 3 [(0, .ref (q 0))] := hl
  have hE : m_step σ0 = m_step σ0 := rfl
  have b90 : ∀ (H : Heap) (locs : List Loc) (ls : Array Slot) (σ : St), m_step σ0 = m_step_90 σ → lv_has ls 3 [] → va_P D vwCl (wsM q cA σ) H → MB σ → va_S (MA q) s.heap H locs → W p l e (headSpec wsM_step { frames := 8, cells := 0, slots := 0, locals := 186 }).room s m ([.ref (q 0)] : List Value).toArray below meth c H locs 0 0 (MQ below (va_Qv (fun u => u = m_step σ0) (MPost D q cA) (MA q)) ([.ref (q 0)] : List Value).toArray s 0 0 (MA q)) (F0 m 90 ls []) := by
    intro H locs ls σ hE hl hP hB hS
    exact W.vret hx hb hr (fun t ht hW => ⟨⟨σ, rfl, hE.symm, ⟨by rw [ht]; exact hP, hB⟩⟩, hS.F ht⟩) hS.2.2 dM_step_90
  have b79 : ∀ (H : Heap) (locs : List Loc) (ls : Array Slot) (σ : St), pcOK σ → m_step σ0 = m_step_79 σ → lv_has ls 3 [(0, .ref (q 0))] → va_P D vwCl (wsM q cA σ) H → MB σ → va_S (MA q) s.heap H locs → W p l e (headSpec wsM_step { frames := 8, cells := 0, slots := 0, locals := 186 }).room s m ([.ref (q 0)] : List Value).toArray below meth c H locs 0 0 (MQ below (va_Qv (fun u => u = m_step σ0) (MPost D q cA) (MA q)) ([.ref (q 0)] : List Value).toArray s 0 0 (MA q)) (F0 m 79 ls []) := by
    intro H locs ls σ hpc_σ hE hl hP hB hS
    refine lv_aload_n hx hb dM_step_79 rfl (lv_at hl 0 rfl) ?_
    refine mget_0_11 hx hb hts inM hown hC hP (hts _ wM_f49) dM_step_80 ?_
    refine lv_if_ne (tgt := 90) hx hb dM_step_83 rfl (fun h11 => ?_) (fun h11 => ?_)
    · have hE := hE.trans (if_neg h11)
      have hl := lv_sub hl [] rfl
      exact b90 _ _ _ _ hE hl hP hB hS
    · have hE := hE.trans (if_pos h11)
      refine lv_aload_n hx hb dM_step_86 rfl (lv_at hl 0 rfl) ?_
      refine mcallv (rest := []) ⟨hx, hb, hml, hown, hts⟩ hC hP hB hS (c_m_instruction l D q cA σ hpc_σ) (cwV 0 hts gM_134 rfl rfl rfl hdM_instruction ⟨Nat.le_of_ble_eq_true rfl, Nat.le_of_ble_eq_true rfl⟩) (mrv_0 hC hP) rfl hl.1 rfl (Nat.le_of_ble_eq_true rfl) dM_step_87 (fun σ12 H locs e12 hP hB hS => ?_)
      have hE := hE.trans (bd_e e12)
      have hl := lv_sub hl [] rfl
      exact b90 _ _ _ _ hE hl hP hB hS
  have b5_2 : ∀ (H : Heap) (locs : List Loc) (ls : Array Slot) (σ : St) (x1 : Int32), pcOK σ → m_step σ0 = m_step_5_2 σ x1 → lv_has ls 3 [(0, .ref (q 0)), (1, .int x1), (2, .int 2)] → va_P D vwCl (wsM q cA σ) H → MB σ → va_S (MA q) s.heap H locs → W p l e (headSpec wsM_step { frames := 8, cells := 0, slots := 0, locals := 186 }).room s m ([.ref (q 0)] : List Value).toArray below meth c H locs 0 0 (MQ below (va_Qv (fun u => u = m_step σ0) (MPost D q cA) (MA q)) ([.ref (q 0)] : List Value).toArray s 0 0 (MA q)) (F0 m 5 ls []) := by
    intro H locs ls σ x1 hpc_σ hE hl hP hB hS
    refine lv_iload_n hx hb dM_step_5 rfl (lv_at hl 2 rfl) ?_
    refine lv_iconst (v := 3) hx hb dM_step_6 (by decide) ?_
    refine lv_icmp_lt (tgt := 49) hx hb dM_step_7 rfl (fun _ => ?_) (fun h9 => absurd (by decide) h9)
    refine lv_iload_n hx hb dM_step_49 rfl (lv_at hl 1 rfl) ?_
    refine lv_if_le (tgt := 79) hx hb dM_step_50 rfl (fun h10 => ?_) (fun h10 => ?_)
    · have hE := hE.trans (if_pos h10)
      have hl := lv_sub hl [0] rfl
      exact b79 _ _ _ _ hpc_σ hE hl hP hB hS
    · have hE := hE.trans (if_neg h10)
      refine lv_aload_n hx hb dM_step_53 rfl (lv_at hl 0 rfl) ?_
      refine lv_dup hx hb dM_step_54 rfl ?_
      refine mget_0_12 hx hb hts inM hown hC hP (hts _ wM_f55) dM_step_55 ?_
      refine lv_iconst (v := 1) hx hb dM_step_58 (by decide) ?_
      refine lv_iload_n hx hb dM_step_59 rfl (lv_at hl 1 rfl) ?_
      refine lv_ishl hx hb dM_step_60 ?_
      refine lv_iconst (v := (-1)) hx hb dM_step_61 (by decide) ?_
      refine lv_ixor hx hb dM_step_62 ?_
      refine lv_iand hx hb dM_step_63 ?_
      refine mput_0_12 hx hb hts inM hown hC hP (hts _ wM_f55) hS dM_step_64 (fun σ13 H locs e13 hP hS => ?_)
      have hE := hE.trans (bd_e e13)
      have hB : MB σ13 := by rw [e13]; exact hB
      refine lv_aload_n hx hb dM_step_67 rfl (lv_at hl 0 rfl) ?_
      refine lv_iload_n hx hb dM_step_68 rfl (lv_at hl 1 rfl) ?_
      refine lv_aload_n hx hb dM_step_69 rfl (lv_at hl 0 rfl) ?_
      refine mget_0_8 hx hb hts inM hown hC hP (hts _ wM_f26) dM_step_70 ?_
      refine lv_bipush (v := 7) hx hb dM_step_73 (by decide) ?_
      refine mald_5 hx hb hC hP (vin_c (by decide)) dM_step_75 ?_
      refine mcallv (rest := []) ⟨hx, hb, hml, hown, hts⟩ hC hP hB hS (c_m_take l D q cA σ13 x1 (σ13 5 (ix 7))) (cwV 2 hts gM_103 rfl rfl rfl hdM_take ⟨Nat.le_of_ble_eq_true rfl, Nat.le_of_ble_eq_true rfl⟩) (mrv_0 hC hP) rfl hl.1 rfl (Nat.le_of_ble_eq_true rfl) dM_step_76 (fun σ14 H locs e14 hP hB hS => ?_)
      have hE := hE.trans (bd_e e14)
      have hl := lv_sub hl [0] rfl
      exact b79 _ _ _ _ (pc_m_take e14 (pc_u0 e13 hpc_σ)) hE hl hP hB hS
  have b42_3 : ∀ (H : Heap) (locs : List Loc) (ls : Array Slot) (σ : St) (y0 : Int32), pcOK σ → m_step σ0 = m_step_42_3 σ y0 → lv_has ls 3 [(0, .ref (q 0)), (2, .int 3)] → va_P D vwCl (wsM q cA σ) H → MB σ → va_S (MA q) s.heap H locs → W p l e (headSpec wsM_step { frames := 8, cells := 0, slots := 0, locals := 186 }).room s m ([.ref (q 0)] : List Value).toArray below meth c H locs 0 0 (MQ below (va_Qv (fun u => u = m_step σ0) (MPost D q cA) (MA q)) ([.ref (q 0)] : List Value).toArray s 0 0 (MA q)) (F0 m 42 ls [.int y0]) := by
    intro H locs ls σ y0 hpc_σ hE hl hP hB hS
    refine lv_istore_n (lv' := [(1, .int y0), (0, .ref (q 0)), (2, .int 3)]) hx hb dM_step_42 rfl hl (by decide) rfl (fun ls hl => ?_)
    refine lv_iinc (k := 2) (v := 2) (lv' := [(2, .int 2), (1, .int y0), (0, .ref (q 0))]) hx hb dM_step_43 hl rfl (by decide) (by decide) rfl (fun ls hl => ?_)
    refine lv_goto (tgt := 5) hx hb dM_step_46 rfl ?_
    have hl := lv_sub hl [2, 1, 0] rfl
    exact b5_2 _ _ _ _ y0 hpc_σ hE hl hP hB hS
  have b41_3 : ∀ (H : Heap) (locs : List Loc) (ls : Array Slot) (σ : St) (x1 : Int32), pcOK σ → m_step σ0 = m_step_41_3 σ x1 → lv_has ls 3 [(0, .ref (q 0)), (1, .int x1), (2, .int 3)] → va_P D vwCl (wsM q cA σ) H → MB σ → va_S (MA q) s.heap H locs → W p l e (headSpec wsM_step { frames := 8, cells := 0, slots := 0, locals := 186 }).room s m ([.ref (q 0)] : List Value).toArray below meth c H locs 0 0 (MQ below (va_Qv (fun u => u = m_step σ0) (MPost D q cA) (MA q)) ([.ref (q 0)] : List Value).toArray s 0 0 (MA q)) (F0 m 41 ls []) := by
    intro H locs ls σ x1 hpc_σ hE hl hP hB hS
    refine lv_iload_n hx hb dM_step_41 rfl (lv_at hl 1 rfl) ?_
    have hl := lv_sub hl [0, 2] rfl
    exact b42_3 _ _ _ _ x1 hpc_σ hE hl hP hB hS
  have b37_3 : ∀ (H : Heap) (locs : List Loc) (ls : Array Slot) (σ : St), pcOK σ → m_step σ0 = m_step_37_3 σ → lv_has ls 3 [(0, .ref (q 0)), (2, .int 3)] → va_P D vwCl (wsM q cA σ) H → MB σ → va_S (MA q) s.heap H locs → W p l e (headSpec wsM_step { frames := 8, cells := 0, slots := 0, locals := 186 }).room s m ([.ref (q 0)] : List Value).toArray below meth c H locs 0 0 (MQ below (va_Qv (fun u => u = m_step σ0) (MPost D q cA) (MA q)) ([.ref (q 0)] : List Value).toArray s 0 0 (MA q)) (F0 m 37 ls []) := by
    intro H locs ls σ hpc_σ hE hl hP hB hS
    refine lv_iload_n hx hb dM_step_37 rfl (lv_at hl 1 rfl) ?_
    refine lv_goto (tgt := 42) hx hb dM_step_38 rfl ?_
    exact b42_3 _ _ _ _ 3 hpc_σ hE hl hP hB hS
  have b5_3 : ∀ (H : Heap) (locs : List Loc) (ls : Array Slot) (σ : St) (x1 : Int32), pcOK σ → m_step σ0 = m_step_5_3 σ x1 → lv_has ls 3 [(0, .ref (q 0)), (1, .int x1), (2, .int 3)] → va_P D vwCl (wsM q cA σ) H → MB σ → va_S (MA q) s.heap H locs → W p l e (headSpec wsM_step { frames := 8, cells := 0, slots := 0, locals := 186 }).room s m ([.ref (q 0)] : List Value).toArray below meth c H locs 0 0 (MQ below (va_Qv (fun u => u = m_step σ0) (MPost D q cA) (MA q)) ([.ref (q 0)] : List Value).toArray s 0 0 (MA q)) (F0 m 5 ls []) := by
    intro H locs ls σ x1 hpc_σ hE hl hP hB hS
    refine lv_iload_n hx hb dM_step_5 rfl (lv_at hl 2 rfl) ?_
    refine lv_iconst (v := 3) hx hb dM_step_6 (by decide) ?_
    refine lv_icmp_lt (tgt := 49) hx hb dM_step_7 rfl (fun h7 => absurd h7 (by decide)) (fun _ => ?_)
    refine lv_aload_n hx hb dM_step_10 rfl (lv_at hl 0 rfl) ?_
    refine mget_0_12 hx hb hts inM hown hC hP (hts _ wM_f55) dM_step_11 ?_
    refine lv_iload_n hx hb dM_step_14 rfl (lv_at hl 2 rfl) ?_
    refine lv_ishr hx hb dM_step_15 ?_
    refine lv_iconst (v := 1) hx hb dM_step_16 (by decide) ?_
    refine lv_iand hx hb dM_step_17 ?_
    refine lv_iconst (v := 1) hx hb dM_step_18 (by decide) ?_
    refine lv_icmp_ne (tgt := 41) hx hb dM_step_19 rfl (fun h8 => ?_) (fun h8 => ?_)
    · have hE := hE.trans (if_neg h8)
      exact b41_3 _ _ _ _ x1 hpc_σ hE hl hP hB hS
    · have hE := hE.trans (if_pos h8)
      refine lv_aload_n hx hb dM_step_22 rfl (lv_at hl 0 rfl) ?_
      refine mget_0_10 hx hb hts inM hown hC hP (hts _ wM_f52) dM_step_23 ?_
      refine lv_if_eq (tgt := 37) hx hb dM_step_26 rfl (fun h15 => ?_) (fun h15 => ?_)
      · have hE := hE.trans (if_pos h15)
        have hl := lv_sub hl [0, 2] rfl
        exact b37_3 _ _ _ _ hpc_σ hE hl hP hB hS
      · have hE := hE.trans (if_neg h15)
        refine lv_iload_n hx hb dM_step_29 rfl (lv_at hl 2 rfl) ?_
        refine lv_aload_n hx hb dM_step_30 rfl (lv_at hl 0 rfl) ?_
        refine mget_0_10 hx hb hts inM hown hC hP (hts _ wM_f52) dM_step_31 ?_
        refine lv_icmp_ge (tgt := 41) hx hb dM_step_34 rfl (fun h16 => ?_) (fun h16 => ?_)
        · have hE := hE.trans (if_pos h16)
          exact b41_3 _ _ _ _ x1 hpc_σ hE hl hP hB hS
        · have hE := hE.trans (if_neg h16)
          have hl := lv_sub hl [0, 2] rfl
          exact b37_3 _ _ _ _ hpc_σ hE hl hP hB hS
  have b42_4 : ∀ (H : Heap) (locs : List Loc) (ls : Array Slot) (σ : St) (y0 : Int32), pcOK σ → m_step σ0 = m_step_42_4 σ y0 → lv_has ls 3 [(0, .ref (q 0)), (2, .int 4)] → va_P D vwCl (wsM q cA σ) H → MB σ → va_S (MA q) s.heap H locs → W p l e (headSpec wsM_step { frames := 8, cells := 0, slots := 0, locals := 186 }).room s m ([.ref (q 0)] : List Value).toArray below meth c H locs 0 0 (MQ below (va_Qv (fun u => u = m_step σ0) (MPost D q cA) (MA q)) ([.ref (q 0)] : List Value).toArray s 0 0 (MA q)) (F0 m 42 ls [.int y0]) := by
    intro H locs ls σ y0 hpc_σ hE hl hP hB hS
    refine lv_istore_n (lv' := [(1, .int y0), (0, .ref (q 0)), (2, .int 4)]) hx hb dM_step_42 rfl hl (by decide) rfl (fun ls hl => ?_)
    refine lv_iinc (k := 2) (v := 3) (lv' := [(2, .int 3), (1, .int y0), (0, .ref (q 0))]) hx hb dM_step_43 hl rfl (by decide) (by decide) rfl (fun ls hl => ?_)
    refine lv_goto (tgt := 5) hx hb dM_step_46 rfl ?_
    have hl := lv_sub hl [2, 1, 0] rfl
    exact b5_3 _ _ _ _ y0 hpc_σ hE hl hP hB hS
  have b41_4 : ∀ (H : Heap) (locs : List Loc) (ls : Array Slot) (σ : St) (x1 : Int32), pcOK σ → m_step σ0 = m_step_41_4 σ x1 → lv_has ls 3 [(0, .ref (q 0)), (1, .int x1), (2, .int 4)] → va_P D vwCl (wsM q cA σ) H → MB σ → va_S (MA q) s.heap H locs → W p l e (headSpec wsM_step { frames := 8, cells := 0, slots := 0, locals := 186 }).room s m ([.ref (q 0)] : List Value).toArray below meth c H locs 0 0 (MQ below (va_Qv (fun u => u = m_step σ0) (MPost D q cA) (MA q)) ([.ref (q 0)] : List Value).toArray s 0 0 (MA q)) (F0 m 41 ls []) := by
    intro H locs ls σ x1 hpc_σ hE hl hP hB hS
    refine lv_iload_n hx hb dM_step_41 rfl (lv_at hl 1 rfl) ?_
    have hl := lv_sub hl [0, 2] rfl
    exact b42_4 _ _ _ _ x1 hpc_σ hE hl hP hB hS
  have b37_4 : ∀ (H : Heap) (locs : List Loc) (ls : Array Slot) (σ : St), pcOK σ → m_step σ0 = m_step_37_4 σ → lv_has ls 3 [(0, .ref (q 0)), (2, .int 4)] → va_P D vwCl (wsM q cA σ) H → MB σ → va_S (MA q) s.heap H locs → W p l e (headSpec wsM_step { frames := 8, cells := 0, slots := 0, locals := 186 }).room s m ([.ref (q 0)] : List Value).toArray below meth c H locs 0 0 (MQ below (va_Qv (fun u => u = m_step σ0) (MPost D q cA) (MA q)) ([.ref (q 0)] : List Value).toArray s 0 0 (MA q)) (F0 m 37 ls []) := by
    intro H locs ls σ hpc_σ hE hl hP hB hS
    refine lv_iload_n hx hb dM_step_37 rfl (lv_at hl 1 rfl) ?_
    refine lv_goto (tgt := 42) hx hb dM_step_38 rfl ?_
    exact b42_4 _ _ _ _ 4 hpc_σ hE hl hP hB hS
  have b5_4 : ∀ (H : Heap) (locs : List Loc) (ls : Array Slot) (σ : St) (x1 : Int32), pcOK σ → m_step σ0 = m_step_5_4 σ x1 → lv_has ls 3 [(0, .ref (q 0)), (1, .int x1), (2, .int 4)] → va_P D vwCl (wsM q cA σ) H → MB σ → va_S (MA q) s.heap H locs → W p l e (headSpec wsM_step { frames := 8, cells := 0, slots := 0, locals := 186 }).room s m ([.ref (q 0)] : List Value).toArray below meth c H locs 0 0 (MQ below (va_Qv (fun u => u = m_step σ0) (MPost D q cA) (MA q)) ([.ref (q 0)] : List Value).toArray s 0 0 (MA q)) (F0 m 5 ls []) := by
    intro H locs ls σ x1 hpc_σ hE hl hP hB hS
    refine lv_iload_n hx hb dM_step_5 rfl (lv_at hl 2 rfl) ?_
    refine lv_iconst (v := 3) hx hb dM_step_6 (by decide) ?_
    refine lv_icmp_lt (tgt := 49) hx hb dM_step_7 rfl (fun h5 => absurd h5 (by decide)) (fun _ => ?_)
    refine lv_aload_n hx hb dM_step_10 rfl (lv_at hl 0 rfl) ?_
    refine mget_0_12 hx hb hts inM hown hC hP (hts _ wM_f55) dM_step_11 ?_
    refine lv_iload_n hx hb dM_step_14 rfl (lv_at hl 2 rfl) ?_
    refine lv_ishr hx hb dM_step_15 ?_
    refine lv_iconst (v := 1) hx hb dM_step_16 (by decide) ?_
    refine lv_iand hx hb dM_step_17 ?_
    refine lv_iconst (v := 1) hx hb dM_step_18 (by decide) ?_
    refine lv_icmp_ne (tgt := 41) hx hb dM_step_19 rfl (fun h6 => ?_) (fun h6 => ?_)
    · have hE := hE.trans (if_neg h6)
      exact b41_4 _ _ _ _ x1 hpc_σ hE hl hP hB hS
    · have hE := hE.trans (if_pos h6)
      refine lv_aload_n hx hb dM_step_22 rfl (lv_at hl 0 rfl) ?_
      refine mget_0_10 hx hb hts inM hown hC hP (hts _ wM_f52) dM_step_23 ?_
      refine lv_if_eq (tgt := 37) hx hb dM_step_26 rfl (fun h17 => ?_) (fun h17 => ?_)
      · have hE := hE.trans (if_pos h17)
        have hl := lv_sub hl [0, 2] rfl
        exact b37_4 _ _ _ _ hpc_σ hE hl hP hB hS
      · have hE := hE.trans (if_neg h17)
        refine lv_iload_n hx hb dM_step_29 rfl (lv_at hl 2 rfl) ?_
        refine lv_aload_n hx hb dM_step_30 rfl (lv_at hl 0 rfl) ?_
        refine mget_0_10 hx hb hts inM hown hC hP (hts _ wM_f52) dM_step_31 ?_
        refine lv_icmp_ge (tgt := 41) hx hb dM_step_34 rfl (fun h18 => ?_) (fun h18 => ?_)
        · have hE := hE.trans (if_pos h18)
          exact b41_4 _ _ _ _ x1 hpc_σ hE hl hP hB hS
        · have hE := hE.trans (if_neg h18)
          have hl := lv_sub hl [0, 2] rfl
          exact b37_4 _ _ _ _ hpc_σ hE hl hP hB hS
  have b42_5 : ∀ (H : Heap) (locs : List Loc) (ls : Array Slot) (σ : St) (y0 : Int32), pcOK σ → m_step σ0 = m_step_42_5 σ y0 → lv_has ls 3 [(0, .ref (q 0)), (2, .int 5)] → va_P D vwCl (wsM q cA σ) H → MB σ → va_S (MA q) s.heap H locs → W p l e (headSpec wsM_step { frames := 8, cells := 0, slots := 0, locals := 186 }).room s m ([.ref (q 0)] : List Value).toArray below meth c H locs 0 0 (MQ below (va_Qv (fun u => u = m_step σ0) (MPost D q cA) (MA q)) ([.ref (q 0)] : List Value).toArray s 0 0 (MA q)) (F0 m 42 ls [.int y0]) := by
    intro H locs ls σ y0 hpc_σ hE hl hP hB hS
    refine lv_istore_n (lv' := [(1, .int y0), (0, .ref (q 0)), (2, .int 5)]) hx hb dM_step_42 rfl hl (by decide) rfl (fun ls hl => ?_)
    refine lv_iinc (k := 2) (v := 4) (lv' := [(2, .int 4), (1, .int y0), (0, .ref (q 0))]) hx hb dM_step_43 hl rfl (by decide) (by decide) rfl (fun ls hl => ?_)
    refine lv_goto (tgt := 5) hx hb dM_step_46 rfl ?_
    have hl := lv_sub hl [2, 1, 0] rfl
    exact b5_4 _ _ _ _ y0 hpc_σ hE hl hP hB hS
  have b41_5 : ∀ (H : Heap) (locs : List Loc) (ls : Array Slot) (σ : St) (x1 : Int32), pcOK σ → m_step σ0 = m_step_41_5 σ x1 → lv_has ls 3 [(0, .ref (q 0)), (1, .int x1), (2, .int 5)] → va_P D vwCl (wsM q cA σ) H → MB σ → va_S (MA q) s.heap H locs → W p l e (headSpec wsM_step { frames := 8, cells := 0, slots := 0, locals := 186 }).room s m ([.ref (q 0)] : List Value).toArray below meth c H locs 0 0 (MQ below (va_Qv (fun u => u = m_step σ0) (MPost D q cA) (MA q)) ([.ref (q 0)] : List Value).toArray s 0 0 (MA q)) (F0 m 41 ls []) := by
    intro H locs ls σ x1 hpc_σ hE hl hP hB hS
    refine lv_iload_n hx hb dM_step_41 rfl (lv_at hl 1 rfl) ?_
    have hl := lv_sub hl [0, 2] rfl
    exact b42_5 _ _ _ _ x1 hpc_σ hE hl hP hB hS
  have b37_5 : ∀ (H : Heap) (locs : List Loc) (ls : Array Slot) (σ : St), pcOK σ → m_step σ0 = m_step_37_5 σ → lv_has ls 3 [(0, .ref (q 0)), (2, .int 5)] → va_P D vwCl (wsM q cA σ) H → MB σ → va_S (MA q) s.heap H locs → W p l e (headSpec wsM_step { frames := 8, cells := 0, slots := 0, locals := 186 }).room s m ([.ref (q 0)] : List Value).toArray below meth c H locs 0 0 (MQ below (va_Qv (fun u => u = m_step σ0) (MPost D q cA) (MA q)) ([.ref (q 0)] : List Value).toArray s 0 0 (MA q)) (F0 m 37 ls []) := by
    intro H locs ls σ hpc_σ hE hl hP hB hS
    refine lv_iload_n hx hb dM_step_37 rfl (lv_at hl 1 rfl) ?_
    refine lv_goto (tgt := 42) hx hb dM_step_38 rfl ?_
    exact b42_5 _ _ _ _ 5 hpc_σ hE hl hP hB hS
  have b5_5 : ∀ (H : Heap) (locs : List Loc) (ls : Array Slot) (σ : St) (x1 : Int32), pcOK σ → m_step σ0 = m_step_5_5 σ x1 → lv_has ls 3 [(0, .ref (q 0)), (1, .int x1), (2, .int 5)] → va_P D vwCl (wsM q cA σ) H → MB σ → va_S (MA q) s.heap H locs → W p l e (headSpec wsM_step { frames := 8, cells := 0, slots := 0, locals := 186 }).room s m ([.ref (q 0)] : List Value).toArray below meth c H locs 0 0 (MQ below (va_Qv (fun u => u = m_step σ0) (MPost D q cA) (MA q)) ([.ref (q 0)] : List Value).toArray s 0 0 (MA q)) (F0 m 5 ls []) := by
    intro H locs ls σ x1 hpc_σ hE hl hP hB hS
    refine lv_iload_n hx hb dM_step_5 rfl (lv_at hl 2 rfl) ?_
    refine lv_iconst (v := 3) hx hb dM_step_6 (by decide) ?_
    refine lv_icmp_lt (tgt := 49) hx hb dM_step_7 rfl (fun h3 => absurd h3 (by decide)) (fun _ => ?_)
    refine lv_aload_n hx hb dM_step_10 rfl (lv_at hl 0 rfl) ?_
    refine mget_0_12 hx hb hts inM hown hC hP (hts _ wM_f55) dM_step_11 ?_
    refine lv_iload_n hx hb dM_step_14 rfl (lv_at hl 2 rfl) ?_
    refine lv_ishr hx hb dM_step_15 ?_
    refine lv_iconst (v := 1) hx hb dM_step_16 (by decide) ?_
    refine lv_iand hx hb dM_step_17 ?_
    refine lv_iconst (v := 1) hx hb dM_step_18 (by decide) ?_
    refine lv_icmp_ne (tgt := 41) hx hb dM_step_19 rfl (fun h4 => ?_) (fun h4 => ?_)
    · have hE := hE.trans (if_neg h4)
      exact b41_5 _ _ _ _ x1 hpc_σ hE hl hP hB hS
    · have hE := hE.trans (if_pos h4)
      refine lv_aload_n hx hb dM_step_22 rfl (lv_at hl 0 rfl) ?_
      refine mget_0_10 hx hb hts inM hown hC hP (hts _ wM_f52) dM_step_23 ?_
      refine lv_if_eq (tgt := 37) hx hb dM_step_26 rfl (fun h19 => ?_) (fun h19 => ?_)
      · have hE := hE.trans (if_pos h19)
        have hl := lv_sub hl [0, 2] rfl
        exact b37_5 _ _ _ _ hpc_σ hE hl hP hB hS
      · have hE := hE.trans (if_neg h19)
        refine lv_iload_n hx hb dM_step_29 rfl (lv_at hl 2 rfl) ?_
        refine lv_aload_n hx hb dM_step_30 rfl (lv_at hl 0 rfl) ?_
        refine mget_0_10 hx hb hts inM hown hC hP (hts _ wM_f52) dM_step_31 ?_
        refine lv_icmp_ge (tgt := 41) hx hb dM_step_34 rfl (fun h20 => ?_) (fun h20 => ?_)
        · have hE := hE.trans (if_pos h20)
          exact b41_5 _ _ _ _ x1 hpc_σ hE hl hP hB hS
        · have hE := hE.trans (if_neg h20)
          have hl := lv_sub hl [0, 2] rfl
          exact b37_5 _ _ _ _ hpc_σ hE hl hP hB hS
  have b42_6 : ∀ (H : Heap) (locs : List Loc) (ls : Array Slot) (σ : St) (y0 : Int32), pcOK σ → m_step σ0 = m_step_42_6 σ y0 → lv_has ls 3 [(0, .ref (q 0)), (2, .int 6)] → va_P D vwCl (wsM q cA σ) H → MB σ → va_S (MA q) s.heap H locs → W p l e (headSpec wsM_step { frames := 8, cells := 0, slots := 0, locals := 186 }).room s m ([.ref (q 0)] : List Value).toArray below meth c H locs 0 0 (MQ below (va_Qv (fun u => u = m_step σ0) (MPost D q cA) (MA q)) ([.ref (q 0)] : List Value).toArray s 0 0 (MA q)) (F0 m 42 ls [.int y0]) := by
    intro H locs ls σ y0 hpc_σ hE hl hP hB hS
    refine lv_istore_n (lv' := [(1, .int y0), (0, .ref (q 0)), (2, .int 6)]) hx hb dM_step_42 rfl hl (by decide) rfl (fun ls hl => ?_)
    refine lv_iinc (k := 2) (v := 5) (lv' := [(2, .int 5), (1, .int y0), (0, .ref (q 0))]) hx hb dM_step_43 hl rfl (by decide) (by decide) rfl (fun ls hl => ?_)
    refine lv_goto (tgt := 5) hx hb dM_step_46 rfl ?_
    have hl := lv_sub hl [2, 1, 0] rfl
    exact b5_5 _ _ _ _ y0 hpc_σ hE hl hP hB hS
  have b41_6 : ∀ (H : Heap) (locs : List Loc) (ls : Array Slot) (σ : St) (x1 : Int32), pcOK σ → m_step σ0 = m_step_41_6 σ x1 → lv_has ls 3 [(0, .ref (q 0)), (1, .int x1), (2, .int 6)] → va_P D vwCl (wsM q cA σ) H → MB σ → va_S (MA q) s.heap H locs → W p l e (headSpec wsM_step { frames := 8, cells := 0, slots := 0, locals := 186 }).room s m ([.ref (q 0)] : List Value).toArray below meth c H locs 0 0 (MQ below (va_Qv (fun u => u = m_step σ0) (MPost D q cA) (MA q)) ([.ref (q 0)] : List Value).toArray s 0 0 (MA q)) (F0 m 41 ls []) := by
    intro H locs ls σ x1 hpc_σ hE hl hP hB hS
    refine lv_iload_n hx hb dM_step_41 rfl (lv_at hl 1 rfl) ?_
    have hl := lv_sub hl [0, 2] rfl
    exact b42_6 _ _ _ _ x1 hpc_σ hE hl hP hB hS
  have b37_6 : ∀ (H : Heap) (locs : List Loc) (ls : Array Slot) (σ : St), pcOK σ → m_step σ0 = m_step_37_6 σ → lv_has ls 3 [(0, .ref (q 0)), (2, .int 6)] → va_P D vwCl (wsM q cA σ) H → MB σ → va_S (MA q) s.heap H locs → W p l e (headSpec wsM_step { frames := 8, cells := 0, slots := 0, locals := 186 }).room s m ([.ref (q 0)] : List Value).toArray below meth c H locs 0 0 (MQ below (va_Qv (fun u => u = m_step σ0) (MPost D q cA) (MA q)) ([.ref (q 0)] : List Value).toArray s 0 0 (MA q)) (F0 m 37 ls []) := by
    intro H locs ls σ hpc_σ hE hl hP hB hS
    refine lv_iload_n hx hb dM_step_37 rfl (lv_at hl 1 rfl) ?_
    refine lv_goto (tgt := 42) hx hb dM_step_38 rfl ?_
    exact b42_6 _ _ _ _ 6 hpc_σ hE hl hP hB hS
  have b5_6 : ∀ (H : Heap) (locs : List Loc) (ls : Array Slot) (σ : St) (x1 : Int32), pcOK σ → m_step σ0 = m_step_5_6 σ x1 → lv_has ls 3 [(0, .ref (q 0)), (1, .int x1), (2, .int 6)] → va_P D vwCl (wsM q cA σ) H → MB σ → va_S (MA q) s.heap H locs → W p l e (headSpec wsM_step { frames := 8, cells := 0, slots := 0, locals := 186 }).room s m ([.ref (q 0)] : List Value).toArray below meth c H locs 0 0 (MQ below (va_Qv (fun u => u = m_step σ0) (MPost D q cA) (MA q)) ([.ref (q 0)] : List Value).toArray s 0 0 (MA q)) (F0 m 5 ls []) := by
    intro H locs ls σ x1 hpc_σ hE hl hP hB hS
    refine lv_iload_n hx hb dM_step_5 rfl (lv_at hl 2 rfl) ?_
    refine lv_iconst (v := 3) hx hb dM_step_6 (by decide) ?_
    refine lv_icmp_lt (tgt := 49) hx hb dM_step_7 rfl (fun h1 => absurd h1 (by decide)) (fun _ => ?_)
    refine lv_aload_n hx hb dM_step_10 rfl (lv_at hl 0 rfl) ?_
    refine mget_0_12 hx hb hts inM hown hC hP (hts _ wM_f55) dM_step_11 ?_
    refine lv_iload_n hx hb dM_step_14 rfl (lv_at hl 2 rfl) ?_
    refine lv_ishr hx hb dM_step_15 ?_
    refine lv_iconst (v := 1) hx hb dM_step_16 (by decide) ?_
    refine lv_iand hx hb dM_step_17 ?_
    refine lv_iconst (v := 1) hx hb dM_step_18 (by decide) ?_
    refine lv_icmp_ne (tgt := 41) hx hb dM_step_19 rfl (fun h2 => ?_) (fun h2 => ?_)
    · have hE := hE.trans (if_neg h2)
      exact b41_6 _ _ _ _ x1 hpc_σ hE hl hP hB hS
    · have hE := hE.trans (if_pos h2)
      refine lv_aload_n hx hb dM_step_22 rfl (lv_at hl 0 rfl) ?_
      refine mget_0_10 hx hb hts inM hown hC hP (hts _ wM_f52) dM_step_23 ?_
      refine lv_if_eq (tgt := 37) hx hb dM_step_26 rfl (fun h21 => ?_) (fun h21 => ?_)
      · have hE := hE.trans (if_pos h21)
        have hl := lv_sub hl [0, 2] rfl
        exact b37_6 _ _ _ _ hpc_σ hE hl hP hB hS
      · have hE := hE.trans (if_neg h21)
        refine lv_iload_n hx hb dM_step_29 rfl (lv_at hl 2 rfl) ?_
        refine lv_aload_n hx hb dM_step_30 rfl (lv_at hl 0 rfl) ?_
        refine mget_0_10 hx hb hts inM hown hC hP (hts _ wM_f52) dM_step_31 ?_
        refine lv_icmp_ge (tgt := 41) hx hb dM_step_34 rfl (fun h22 => ?_) (fun h22 => ?_)
        · have hE := hE.trans (if_pos h22)
          exact b41_6 _ _ _ _ x1 hpc_σ hE hl hP hB hS
        · have hE := hE.trans (if_neg h22)
          have hl := lv_sub hl [0, 2] rfl
          exact b37_6 _ _ _ _ hpc_σ hE hl hP hB hS
  refine lv_iconst (v := 0) hx hb dM_step_0 (by decide) ?_
  refine lv_istore_n (lv' := [(1, .int 0), (0, .ref (q 0))]) hx hb dM_step_1 rfl hl (by decide) rfl (fun ls hl => ?_)
  refine lv_bipush (v := 6) hx hb dM_step_2 (by decide) ?_
  refine lv_istore_n (lv' := [(2, .int 6), (1, .int 0), (0, .ref (q 0))]) hx hb dM_step_4 rfl hl (by decide) rfl (fun ls hl => ?_)
  have hl := lv_sub hl [2, 1, 0] rfl
  exact b5_6 _ _ _ _ 0 hpc_σ0 hE hl hP hB hS
set_option maxRecDepth 100000 in
set_option maxHeartbeats 4000000 in
theorem c_m_word (l : Launch) (D : va_G) (q : Nat → Nat) (cA : ClassId) (σ0 : St) (a1 : Int32) : Met l yM_word wsM_word { frames := 0, cells := 0, slots := 0, locals := 0 } (va_Pc [.ref (q 0), .int a1] (MPre D q cA σ0)) (va_Qi (fun r u => (u, r) = m_word σ0 a1) (MPost D q cA) (MA q)) 0 0 (MA q) := by
  refine Met.ofW (cc := cM_word) (maxL := 2) (ret := (some .int)) (by decide) rfl ?_
  intro p e s m args below meth c s₁ B hml hv
  obtain ⟨rfl, hP, hB, hC⟩ := hv
  have hx := B.exec
  have hb := B.bytes
  have hr := B.returns
  have hts : ∀ w ∈ gw, w.before ([.ref (q 0), .int a1] : List Value).toArray s = true := fun w h => atoms_spec (ws := wsM_word) B.pre w (List.mem_cons_of_mem _ h)
  have hown : s.vm.findClass RM = some m.cls := findClass_of_methodNamed B.named
  have hlocks := B.notSynchronized
  have hS : va_S (MA q) s.heap s.heap [] := va_S.rf
  have hl := lv_entry ([.ref (q 0), .int a1]) (n := 2) (Nat.le_of_ble_eq_true rfl)
  rw [lg_entry_eq]
  generalize (lg_sl ([.ref (q 0), .int a1]) ++ List.replicate (2 - (lg_sl ([.ref (q 0), .int a1])).length) Slot.unset).toArray = ls at hl ⊢
  have hl : lv_has ls 2 [(0, .ref (q 0)), (1, .int a1)] := hl
  have hE : m_word σ0 a1 = m_word σ0 a1 := rfl
  refine lv_aload_n hx hb dM_word_0 rfl (lv_at hl 0 rfl) ?_
  refine mget_0_0 hx hb hts inM hown hC hP (hts _ wM_f7) dM_word_1 ?_
  refine lv_iload_n hx hb dM_word_4 rfl (lv_at hl 1 rfl) ?_
  refine lv_sipush (v := 255) hx hb dM_word_5 (by decide) ?_
  refine lv_iand hx hb dM_word_8 ?_
  refine mald_1 hx hb hC hP (vin_m 8 (by decide) (by decide) (by decide)) dM_word_9 ?_
  exact W.iret (v := (σ0 1 (ix (a1 &&& 255)))) hx hb hr (fun t ht hW => ⟨⟨(σ0 1 (ix (a1 &&& 255))), σ0, rfl, hE.symm, ⟨by rw [ht]; exact hP, hB⟩⟩, hS.F ht⟩) hS.2.2 dM_word_10
set_option maxRecDepth 100000 in
set_option maxHeartbeats 4000000 in
theorem c_m_register (l : Launch) (D : va_G) (q : Nat → Nat) (cA : ClassId) (σ0 : St) (a1 : Int32) : Met l yM_register wsM_register { frames := 0, cells := 0, slots := 0, locals := 0 } (va_Pc [.ref (q 0), .int a1] (MPre D q cA σ0)) (va_Qi (fun r u => (u, r) = m_register σ0 a1) (MPost D q cA) (MA q)) 0 0 (MA q) := by
  refine Met.ofW (cc := cM_register) (maxL := 2) (ret := (some .int)) (by decide) rfl ?_
  intro p e s m args below meth c s₁ B hml hv
  obtain ⟨rfl, hP, hB, hC⟩ := hv
  have hx := B.exec
  have hb := B.bytes
  have hr := B.returns
  have hts : ∀ w ∈ gw, w.before ([.ref (q 0), .int a1] : List Value).toArray s = true := fun w h => atoms_spec (ws := wsM_register) B.pre w (List.mem_cons_of_mem _ h)
  have hown : s.vm.findClass RM = some m.cls := findClass_of_methodNamed B.named
  have hlocks := B.notSynchronized
  have hS : va_S (MA q) s.heap s.heap [] := va_S.rf
  have hl := lv_entry ([.ref (q 0), .int a1]) (n := 2) (Nat.le_of_ble_eq_true rfl)
  rw [lg_entry_eq]
  generalize (lg_sl ([.ref (q 0), .int a1]) ++ List.replicate (2 - (lg_sl ([.ref (q 0), .int a1])).length) Slot.unset).toArray = ls at hl ⊢
  have hl : lv_has ls 2 [(0, .ref (q 0)), (1, .int a1)] := hl
  have hE : m_register σ0 a1 = m_register σ0 a1 := rfl
  have b10 : ∀ (H : Heap) (locs : List Loc) (ls : Array Slot) (σ : St), m_register σ0 a1 = m_register_10 σ → lv_has ls 2 [] → va_P D vwCl (wsM q cA σ) H → MB σ → va_S (MA q) s.heap H locs → W p l e (headSpec wsM_register { frames := 0, cells := 0, slots := 0, locals := 0 }).room s m ([.ref (q 0), .int a1] : List Value).toArray below meth c H locs 0 0 (MQ below (va_Qi (fun r u => (u, r) = m_register σ0 a1) (MPost D q cA) (MA q)) ([.ref (q 0), .int a1] : List Value).toArray s 0 0 (MA q)) (F0 m 10 ls []) := by
    intro H locs ls σ hE hl hP hB hS
    refine lv_iconst (v := (-1)) hx hb dM_register_10 (by decide) ?_
    exact W.iret (v := (-1)) hx hb hr (fun t ht hW => ⟨⟨(-1), σ, rfl, hE.symm, ⟨by rw [ht]; exact hP, hB⟩⟩, hS.F ht⟩) hS.2.2 dM_register_11
  have b68 : ∀ (H : Heap) (locs : List Loc) (ls : Array Slot) (σ : St) (y0 : Int32), m_register σ0 a1 = m_register_68 σ y0 → lv_has ls 2 [] → va_P D vwCl (wsM q cA σ) H → MB σ → va_S (MA q) s.heap H locs → W p l e (headSpec wsM_register { frames := 0, cells := 0, slots := 0, locals := 0 }).room s m ([.ref (q 0), .int a1] : List Value).toArray below meth c H locs 0 0 (MQ below (va_Qi (fun r u => (u, r) = m_register σ0 a1) (MPost D q cA) (MA q)) ([.ref (q 0), .int a1] : List Value).toArray s 0 0 (MA q)) (F0 m 68 ls [.int y0]) := by
    intro H locs ls σ y0 hE hl hP hB hS
    exact W.iret (v := y0) hx hb hr (fun t ht hW => ⟨⟨y0, σ, rfl, hE.symm, ⟨by rw [ht]; exact hP, hB⟩⟩, hS.F ht⟩) hS.2.2 dM_register_68
  refine lv_iload_n hx hb dM_register_0 rfl (lv_at hl 1 rfl) ?_
  refine lv_if_lt (tgt := 10) hx hb dM_register_1 rfl (fun h1 => ?_) (fun h1 => ?_)
  · have hE := hE.trans (if_pos h1)
    have hl := lv_sub hl [] rfl
    exact b10 _ _ _ _ hE hl hP hB hS
  · have hE := hE.trans (if_neg h1)
    refine lv_iload_n hx hb dM_register_4 rfl (lv_at hl 1 rfl) ?_
    refine lv_bipush (v := 15) hx hb dM_register_5 (by decide) ?_
    refine lv_icmp_le (tgt := 12) hx hb dM_register_7 rfl (fun h2 => ?_) (fun h2 => ?_)
    · have hE := hE.trans (if_pos h2)
      refine lv_iload_n hx hb dM_register_12 rfl (lv_at hl 1 rfl) ?_
      refine lv_bipush (v := 12) hx hb dM_register_13 (by decide) ?_
      refine lv_icmp_ge (tgt := 25) hx hb dM_register_15 rfl (fun h3 => ?_) (fun h3 => ?_)
      · have hE := hE.trans (if_pos h3)
        refine lv_iload_n hx hb dM_register_25 rfl (lv_at hl 1 rfl) ?_
        refine lv_bipush (v := 12) hx hb dM_register_26 (by decide) ?_
        refine lv_icmp_ne (tgt := 38) hx hb dM_register_28 rfl (fun h4 => ?_) (fun h4 => ?_)
        · have hE := hE.trans (if_neg h4)
          refine lv_iload_n hx hb dM_register_38 rfl (lv_at hl 1 rfl) ?_
          refine lv_bipush (v := 13) hx hb dM_register_39 (by decide) ?_
          refine lv_icmp_ne (tgt := 51) hx hb dM_register_41 rfl (fun h5 => ?_) (fun h5 => ?_)
          · have hE := hE.trans (if_neg h5)
            refine lv_iload_n hx hb dM_register_51 rfl (lv_at hl 1 rfl) ?_
            refine lv_bipush (v := 14) hx hb dM_register_52 (by decide) ?_
            refine lv_icmp_ne (tgt := 64) hx hb dM_register_54 rfl (fun h6 => ?_) (fun h6 => ?_)
            · have hE := hE.trans (if_neg h6)
              refine lv_aload_n hx hb dM_register_64 rfl (lv_at hl 0 rfl) ?_
              refine mget_0_13 hx hb hts inM hown hC hP (hts _ wM_f100) dM_register_65 ?_
              have hl := lv_sub hl [] rfl
              exact b68 _ _ _ _ (σ0 0 13) hE hl hP hB hS
            · have hE := hE.trans (if_pos h6)
              refine lv_aload_n hx hb dM_register_57 rfl (lv_at hl 0 rfl) ?_
              refine mget_0_12 hx hb hts inM hown hC hP (hts _ wM_f55) dM_register_58 ?_
              refine lv_goto (tgt := 68) hx hb dM_register_61 rfl ?_
              have hl := lv_sub hl [] rfl
              exact b68 _ _ _ _ (σ0 0 12) hE hl hP hB hS
          · have hE := hE.trans (if_pos h5)
            refine lv_aload_n hx hb dM_register_44 rfl (lv_at hl 0 rfl) ?_
            refine mget_0_11 hx hb hts inM hown hC hP (hts _ wM_f49) dM_register_45 ?_
            refine lv_goto (tgt := 68) hx hb dM_register_48 rfl ?_
            have hl := lv_sub hl [] rfl
            exact b68 _ _ _ _ (σ0 0 11) hE hl hP hB hS
        · have hE := hE.trans (if_pos h4)
          refine lv_aload_n hx hb dM_register_31 rfl (lv_at hl 0 rfl) ?_
          refine mget_0_10 hx hb hts inM hown hC hP (hts _ wM_f52) dM_register_32 ?_
          refine lv_goto (tgt := 68) hx hb dM_register_35 rfl ?_
          have hl := lv_sub hl [] rfl
          exact b68 _ _ _ _ (σ0 0 10) hE hl hP hB hS
      · have hE := hE.trans (if_neg h3)
        refine lv_aload_n hx hb dM_register_18 rfl (lv_at hl 0 rfl) ?_
        refine mget_0_8 hx hb hts inM hown hC hP (hts _ wM_f26) dM_register_19 ?_
        refine lv_iload_n hx hb dM_register_22 rfl (lv_at hl 1 rfl) ?_
        refine mald_5 hx hb hC hP (vin_nge h1 h3 (by decide)) dM_register_23 ?_
        exact W.iret (v := (σ0 5 (ix a1))) hx hb hr (fun t ht hW => ⟨⟨(σ0 5 (ix a1)), σ0, rfl, hE.symm, ⟨by rw [ht]; exact hP, hB⟩⟩, hS.F ht⟩) hS.2.2 dM_register_24
    · have hE := hE.trans (if_neg h2)
      have hl := lv_sub hl [] rfl
      exact b10 _ _ _ _ hE hl hP hB hS
set_option maxRecDepth 100000 in
set_option maxHeartbeats 4000000 in
theorem c_m_kind (l : Launch) (D : va_G) (q : Nat → Nat) (cA : ClassId) (σ0 : St) (a1 : Int32) : Met l yM_kind wsM_kind { frames := 1, cells := 0, slots := 0, locals := 25 } (va_Pc [.ref (q 0), .int a1] (MPre D q cA σ0)) (va_Qi (fun r u => (u, r) = m_kind σ0 a1) (MPost D q cA) (MA q)) 0 0 (MA q) := by
  refine Met.ofW (cc := cM_kind) (maxL := 2) (ret := (some .int)) (by decide) rfl ?_
  intro p e s m args below meth c s₁ B hml hv
  obtain ⟨rfl, hP, hB, hC⟩ := hv
  have hx := B.exec
  have hb := B.bytes
  have hr := B.returns
  have hts : ∀ w ∈ gw, w.before ([.ref (q 0), .int a1] : List Value).toArray s = true := fun w h => atoms_spec (ws := wsM_kind) B.pre w (List.mem_cons_of_mem _ h)
  have hown : s.vm.findClass RM = some m.cls := findClass_of_methodNamed B.named
  have hlocks := B.notSynchronized
  have hS : va_S (MA q) s.heap s.heap [] := va_S.rf
  have hl := lv_entry ([.ref (q 0), .int a1]) (n := 2) (Nat.le_of_ble_eq_true rfl)
  rw [lg_entry_eq]
  generalize (lg_sl ([.ref (q 0), .int a1]) ++ List.replicate (2 - (lg_sl ([.ref (q 0), .int a1])).length) Slot.unset).toArray = ls at hl ⊢
  have hl : lv_has ls 2 [(0, .ref (q 0)), (1, .int a1)] := hl
  have hE : m_kind σ0 a1 = m_kind σ0 a1 := rfl
  refine lv_aload_n hx hb dM_kind_0 rfl (lv_at hl 0 rfl) ?_
  refine lv_iload_n hx hb dM_kind_1 rfl (lv_at hl 1 rfl) ?_
  refine mcalli (rest := []) ⟨hx, hb, hml, hown, hts⟩ hC hP hB hS (c_m_kindAt l D q cA σ0 a1) (cwV 1 hts gM_65 rfl rfl rfl hdM_kindAt ⟨Nat.le_of_ble_eq_true rfl, Nat.le_of_ble_eq_true rfl⟩) (mrv_0 hC hP) rfl hl.1 rfl (Nat.le_of_ble_eq_true rfl) dM_kind_2 (fun σ1 v2 H locs e1 hP hB hS => ?_)
  have hE := hE.trans (bd2_e e1)
  exact W.iret (v := v2) hx hb hr (fun t ht hW => ⟨⟨v2, σ1, rfl, hE.symm, ⟨by rw [ht]; exact hP, hB⟩⟩, hS.F ht⟩) hS.2.2 dM_kind_5
