set_option maxRecDepth 100000 in
set_option maxHeartbeats 4000000 in
theorem c_m_fault (l : Launch) (D : va_G) (q : Nat → Nat) (cA : ClassId) (σ0 : St) : Met l yM_fault wsM_fault { frames := 5, cells := 0, slots := 0, locals := 115 } (va_Pc [.ref (q 0)] (MPre D q cA σ0)) (va_Qv (fun u => u = m_fault σ0) (MPost D q cA) (MA q)) 0 0 (MA q) := by
  refine Met.ofW (cc := cM_fault) (maxL := 2) (ret := none) (by decide) rfl ?_
  intro p e s m args below meth c s₁ B hml hv
  obtain ⟨rfl, hP, hB, hC⟩ := hv
  have hx := B.exec
  have hb := B.bytes
  have hr := B.returns
  have hts : ∀ w ∈ gw, w.before ([.ref (q 0)] : List Value).toArray s = true := fun w h => atoms_spec (ws := wsM_fault) B.pre w (List.mem_cons_of_mem _ h)
  have hown : s.vm.findClass RM = some m.cls := findClass_of_methodNamed B.named
  have hlocks := B.notSynchronized
  have hS : va_S (MA q) s.heap s.heap [] := va_S.rf
  have hl := lv_entry ([.ref (q 0)]) (n := 2) (Nat.le_of_ble_eq_true rfl)
  rw [lg_entry_eq]
  generalize (lg_sl ([.ref (q 0)]) ++ List.replicate (2 - (lg_sl ([.ref (q 0)])).length) Slot.unset).toArray = ls at hl ⊢
  have hl : lv_has ls 2 [(0, .ref (q 0))] := hl
  have hE : m_fault σ0 = m_fault σ0 := rfl
  have b69 : ∀ (H : Heap) (locs : List Loc) (ls : Array Slot) (σ : St), m_fault σ0 = m_fault_69 σ → lv_has ls 2 [] → va_P D vwCl (wsM q cA σ) H → MB σ → va_S (MA q) s.heap H locs → W p l e (headSpec wsM_fault { frames := 5, cells := 0, slots := 0, locals := 115 }).room s m ([.ref (q 0)] : List Value).toArray below meth c H locs 0 0 (MQ below (va_Qv (fun u => u = m_fault σ0) (MPost D q cA) (MA q)) ([.ref (q 0)] : List Value).toArray s 0 0 (MA q)) (F0 m 69 ls []) := by
    intro H locs ls σ hE hl hP hB hS
    exact W.vret hx hb hr (fun t ht hW => ⟨⟨σ, rfl, hE.symm, ⟨by rw [ht]; exact hP, hB⟩⟩, hS.F ht⟩) hS.2.2 dM_fault_69
  have b49 : ∀ (H : Heap) (locs : List Loc) (ls : Array Slot) (σ : St), m_fault σ0 = m_fault_49 σ → lv_has ls 2 [(0, .ref (q 0))] → va_P D vwCl (wsM q cA σ) H → MB σ → va_S (MA q) s.heap H locs → W p l e (headSpec wsM_fault { frames := 5, cells := 0, slots := 0, locals := 115 }).room s m ([.ref (q 0)] : List Value).toArray below meth c H locs 0 0 (MQ below (va_Qv (fun u => u = m_fault σ0) (MPost D q cA) (MA q)) ([.ref (q 0)] : List Value).toArray s 0 0 (MA q)) (F0 m 49 ls []) := by
    intro H locs ls σ hE hl hP hB hS
    refine lv_aload_n hx hb dM_fault_49 rfl (lv_at hl 0 rfl) ?_
    refine lv_iconst (v := 2) hx hb dM_fault_50 (by decide) ?_
    refine mput_0_11 hx hb hts inM hown hC hP (hts _ wM_f49) hS dM_fault_51 (fun σ4 H locs e4 hP hS => ?_)
    have hE := hE.trans (bd_e e4)
    have hB : MB σ4 := by rw [e4]; exact hB
    refine lv_goto (tgt := 69) hx hb dM_fault_54 rfl ?_
    have hl := lv_sub hl [] rfl
    exact b69 _ _ _ _ hE hl hP hB hS
  have b57 : ∀ (H : Heap) (locs : List Loc) (ls : Array Slot) (σ : St) (x1 : Int32), m_fault σ0 = m_fault_57 σ x1 → lv_has ls 2 [(0, .ref (q 0)), (1, .int x1)] → va_P D vwCl (wsM q cA σ) H → MB σ → va_S (MA q) s.heap H locs → W p l e (headSpec wsM_fault { frames := 5, cells := 0, slots := 0, locals := 115 }).room s m ([.ref (q 0)] : List Value).toArray below meth c H locs 0 0 (MQ below (va_Qv (fun u => u = m_fault σ0) (MPost D q cA) (MA q)) ([.ref (q 0)] : List Value).toArray s 0 0 (MA q)) (F0 m 57 ls []) := by
    intro H locs ls σ x1 hE hl hP hB hS
    refine lv_aload_n hx hb dM_fault_57 rfl (lv_at hl 0 rfl) ?_
    refine lv_iload_n hx hb dM_fault_58 rfl (lv_at hl 1 rfl) ?_
    refine lv_aload_n hx hb dM_fault_59 rfl (lv_at hl 0 rfl) ?_
    refine mget_0_8 hx hb hts inM hown hC hP (hts _ wM_f26) dM_fault_60 ?_
    refine lv_bipush (v := 7) hx hb dM_fault_63 (by decide) ?_
    refine mald_5 hx hb hC hP (vin_c (by decide)) dM_fault_65 ?_
    refine mcallv (rest := []) ⟨hx, hb, hml, hown, hts⟩ hC hP hB hS (c_m_take l D q cA σ x1 (σ 5 (ix 7))) (cwV 2 hts gM_103 rfl rfl rfl hdM_take ⟨Nat.le_of_ble_eq_true rfl, Nat.le_of_ble_eq_true rfl⟩) (mrv_0 hC hP) rfl hl.1 rfl (Nat.le_of_ble_eq_true rfl) dM_fault_66 (fun σ6 H locs e6 hP hB hS => ?_)
    have hE := hE.trans (bd_e e6)
    have hl := lv_sub hl [] rfl
    exact b69 _ _ _ _ hE hl hP hB hS
  have b23 : ∀ (H : Heap) (locs : List Loc) (ls : Array Slot) (σ : St) (y0 : Int32), m_fault σ0 = m_fault_23 σ y0 → lv_has ls 2 [(0, .ref (q 0))] → va_P D vwCl (wsM q cA σ) H → MB σ → va_S (MA q) s.heap H locs → W p l e (headSpec wsM_fault { frames := 5, cells := 0, slots := 0, locals := 115 }).room s m ([.ref (q 0)] : List Value).toArray below meth c H locs 0 0 (MQ below (va_Qv (fun u => u = m_fault σ0) (MPost D q cA) (MA q)) ([.ref (q 0)] : List Value).toArray s 0 0 (MA q)) (F0 m 23 ls [.int y0]) := by
    intro H locs ls σ y0 hE hl hP hB hS
    refine lv_istore_n (lv' := [(1, .int y0), (0, .ref (q 0))]) hx hb dM_fault_23 rfl hl (by decide) rfl (fun ls hl => ?_)
    refine lv_aload_n hx hb dM_fault_24 rfl (lv_at hl 1 rfl) ?_
    refine mcallv (rest := []) ⟨hx, hb, hml, hown, hts⟩ hC hP hB hS (c_m_takeBack l D q cA σ) (cwV 0 hts gM_93 rfl rfl rfl hdM_takeBack ⟨Nat.le_of_ble_eq_true rfl, Nat.le_of_ble_eq_true rfl⟩) (mrv_0 hC hP) rfl hl.1 rfl (Nat.le_of_ble_eq_true rfl) dM_fault_25 (fun σ2 H locs e2 hP hB hS => ?_)
    have hE := hE.trans (bd_e e2)
    refine lv_aload_n hx hb dM_fault_28 rfl (lv_at hl 1 rfl) ?_
    refine mget_0_10 hx hb hts inM hown hC hP (hts _ wM_f52) dM_fault_29 ?_
    refine lv_iconst (v := 1) hx hb dM_fault_32 (by decide) ?_
    refine lv_icmp_eq (tgt := 49) hx hb dM_fault_33 rfl (fun h3 => ?_) (fun h3 => ?_)
    · have hE := hE.trans (if_pos h3)
      have hl := lv_sub hl [1] rfl
      exact b49 _ _ _ _ hE hl hP hB hS
    · have hE := hE.trans (if_neg h3)
      refine lv_aload_n hx hb dM_fault_36 rfl (lv_at hl 1 rfl) ?_
      refine mget_0_10 hx hb hts inM hown hC hP (hts _ wM_f52) dM_fault_37 ?_
      refine lv_iconst (v := 2) hx hb dM_fault_40 (by decide) ?_
      refine lv_icmp_ne (tgt := 57) hx hb dM_fault_41 rfl (fun h5 => ?_) (fun h5 => ?_)
      · have hE := hE.trans (if_neg h5)
        have hl := lv_sub hl [1, 0] rfl
        exact b57 _ _ _ _ y0 hE hl hP hB hS
      · have hE := hE.trans (if_pos h5)
        refine lv_iload_n hx hb dM_fault_44 rfl (lv_at hl 0 rfl) ?_
        refine lv_iconst (v := 1) hx hb dM_fault_45 (by decide) ?_
        refine lv_icmp_eq (tgt := 57) hx hb dM_fault_46 rfl (fun h7 => ?_) (fun h7 => ?_)
        · have hE := hE.trans (if_pos h7)
          have hl := lv_sub hl [1, 0] rfl
          exact b57 _ _ _ _ y0 hE hl hP hB hS
        · have hE := hE.trans (if_neg h7)
          have hl := lv_sub hl [1] rfl
          exact b49 _ _ _ _ hE hl hP hB hS
  have b19 : ∀ (H : Heap) (locs : List Loc) (ls : Array Slot) (σ : St), m_fault σ0 = m_fault_19 σ → lv_has ls 2 [(0, .ref (q 0))] → va_P D vwCl (wsM q cA σ) H → MB σ → va_S (MA q) s.heap H locs → W p l e (headSpec wsM_fault { frames := 5, cells := 0, slots := 0, locals := 115 }).room s m ([.ref (q 0)] : List Value).toArray below meth c H locs 0 0 (MQ below (va_Qv (fun u => u = m_fault σ0) (MPost D q cA) (MA q)) ([.ref (q 0)] : List Value).toArray s 0 0 (MA q)) (F0 m 19 ls []) := by
    intro H locs ls σ hE hl hP hB hS
    refine lv_aload_n hx hb dM_fault_19 rfl (lv_at hl 0 rfl) ?_
    refine mget_0_14 hx hb hts inM hown hC hP (hts _ wM_f58) dM_fault_20 ?_
    exact b23 _ _ _ _ (σ 0 14) hE hl hP hB hS
  refine lv_aload_n hx hb dM_fault_0 rfl (lv_at hl 0 rfl) ?_
  refine mget_0_14 hx hb hts inM hown hC hP (hts _ wM_f58) dM_fault_1 ?_
  refine lv_iconst (v := 2) hx hb dM_fault_4 (by decide) ?_
  refine lv_icmp_ne (tgt := 19) hx hb dM_fault_5 rfl (fun h1 => ?_) (fun h1 => ?_)
  · have hE := hE.trans (if_neg h1)
    exact b19 _ _ _ _ hE hl hP hB hS
  · have hE := hE.trans (if_pos h1)
    refine lv_aload_n hx hb dM_fault_8 rfl (lv_at hl 0 rfl) ?_
    refine mget_0_4 hx hb hts inM hown hC hP (hts _ wM_f22) dM_fault_9 ?_
    have z8 : zb (σ0 0 4) := MB_0_4 hB
    refine lv_if_ne (tgt := 19) hx hb dM_fault_12 rfl (fun h9 => ?_) (fun h9 => ?_)
    · have hE := hE.trans (if_neg h9)
      exact b19 _ _ _ _ hE hl hP hB hS
    · have hE := hE.trans (if_pos h9)
      refine lv_iconst (v := 1) hx hb dM_fault_15 (by decide) ?_
      refine lv_goto (tgt := 23) hx hb dM_fault_16 rfl ?_
      exact b23 _ _ _ _ 1 hE hl hP hB hS
set_option maxRecDepth 100000 in
set_option maxHeartbeats 4000000 in
theorem c_m_endException (l : Launch) (D : va_G) (q : Nat → Nat) (cA : ClassId) (σ0 : St) : Met l yM_endException wsM_endException { frames := 4, cells := 0, slots := 0, locals := 89 } (va_Pc [.ref (q 0)] (MPre D q cA σ0)) (va_Qv (fun u => u = m_endException σ0) (MPost D q cA) (MA q)) 0 0 (MA q) := by
  refine Met.ofW (cc := cM_endException) (maxL := 5) (ret := none) (by decide) rfl ?_
  intro p e s m args below meth c s₁ B hml hv
  obtain ⟨rfl, hP, hB, hC⟩ := hv
  have hx := B.exec
  have hb := B.bytes
  have hr := B.returns
  have hts : ∀ w ∈ gw, w.before ([.ref (q 0)] : List Value).toArray s = true := fun w h => atoms_spec (ws := wsM_endException) B.pre w (List.mem_cons_of_mem _ h)
  have hown : s.vm.findClass RM = some m.cls := findClass_of_methodNamed B.named
  have hlocks := B.notSynchronized
  have hS : va_S (MA q) s.heap s.heap [] := va_S.rf
  have hl := lv_entry ([.ref (q 0)]) (n := 5) (Nat.le_of_ble_eq_true rfl)
  rw [lg_entry_eq]
  generalize (lg_sl ([.ref (q 0)]) ++ List.replicate (5 - (lg_sl ([.ref (q 0)])).length) Slot.unset).toArray = ls at hl ⊢
  have hl : lv_has ls 5 [(0, .ref (q 0))] := hl
  have hE : m_endException σ0 = m_endException σ0 := rfl
  have b136 : ∀ (H : Heap) (locs : List Loc) (ls : Array Slot) (σ : St), m_endException σ0 = m_endException_136 σ → lv_has ls 5 [] → va_P D vwCl (wsM q cA σ) H → MB σ → va_S (MA q) s.heap H locs → W p l e (headSpec wsM_endException { frames := 4, cells := 0, slots := 0, locals := 89 }).room s m ([.ref (q 0)] : List Value).toArray below meth c H locs 0 0 (MQ below (va_Qv (fun u => u = m_endException σ0) (MPost D q cA) (MA q)) ([.ref (q 0)] : List Value).toArray s 0 0 (MA q)) (F0 m 136 ls []) := by
    intro H locs ls σ hE hl hP hB hS
    exact W.vret hx hb hr (fun t ht hW => ⟨⟨σ, rfl, hE.symm, ⟨by rw [ht]; exact hP, hB⟩⟩, hS.F ht⟩) hS.2.2 dM_endException_136
  have b108_10 : ∀ (H : Heap) (locs : List Loc) (ls : Array Slot) (σ : St) (x2 : Int32) (y0 : Int32), m_endException σ0 = m_endException_108_10 σ x2 y0 → lv_has ls 5 [(0, .ref (q 0)), (2, .int x2)] → va_P D vwCl (wsM q cA σ) H → MB σ → va_S (MA q) s.heap H locs → W p l e (headSpec wsM_endException { frames := 4, cells := 0, slots := 0, locals := 89 }).room s m ([.ref (q 0)] : List Value).toArray below meth c H locs 0 0 (MQ below (va_Qv (fun u => u = m_endException σ0) (MPost D q cA) (MA q)) ([.ref (q 0)] : List Value).toArray s 0 0 (MA q)) (F0 m 108 ls [.int y0, .int 10, .ref (q 5)]) := by
    intro H locs ls σ x2 y0 hE hl hP hB hS
    refine mast_5 hx hb hC hP hS (vin_c (by decide)) dM_endException_108 (fun σ37 H locs e37 hP hS => ?_)
    have hE := hE.trans (bd_e e37)
    have hB : MB σ37 := by rw [e37]; exact hB
    refine lv_aload_n hx hb dM_endException_109 rfl (lv_at hl 0 rfl) ?_
    refine mget_0_8 hx hb hts inM hown hC hP (hts _ wM_f26) dM_endException_110 ?_
    refine lv_bipush (v := 7) hx hb dM_endException_113 (by decide) ?_
    refine lv_aload_n hx hb dM_endException_115 rfl (lv_at hl 0 rfl) ?_
    refine mcalli (rest := [.int 7, .ref (q 5)]) ⟨hx, hb, hml, hown, hts⟩ hC hP hB hS (c_m_pop l D q cA σ37) (cwV 0 hts gM_106 rfl rfl rfl hdM_pop ⟨Nat.le_of_ble_eq_true rfl, Nat.le_of_ble_eq_true rfl⟩) (mrv_0 hC hP) rfl hl.1 rfl (Nat.le_of_ble_eq_true rfl) dM_endException_116 (fun σ38 v39 H locs e38 hP hB hS => ?_)
    have hE := hE.trans (bd2_e e38)
    refine lv_sipush (v := 255) hx hb dM_endException_119 (by decide) ?_
    refine lv_iand hx hb dM_endException_122 ?_
    refine mast_5 hx hb hC hP hS (vin_c (by decide)) dM_endException_123 (fun σ40 H locs e40 hP hS => ?_)
    have hE := hE.trans (bd_e e40)
    have hB : MB σ40 := by rw [e40]; exact hB
    refine lv_aload_n hx hb dM_endException_124 rfl (lv_at hl 0 rfl) ?_
    refine mget_0_14 hx hb hts inM hown hC hP (hts _ wM_f58) dM_endException_125 ?_
    refine lv_if_ne (tgt := 136) hx hb dM_endException_128 rfl (fun h41 => ?_) (fun h41 => ?_)
    · have hE := hE.trans (if_neg h41)
      have hl := lv_sub hl [] rfl
      exact b136 _ _ _ _ hE hl hP hB hS
    · have hE := hE.trans (if_pos h41)
      refine lv_aload_n hx hb dM_endException_131 rfl (lv_at hl 0 rfl) ?_
      refine lv_iload_n hx hb dM_endException_132 rfl (lv_at hl 1 rfl) ?_
      refine mput_0_10 hx hb hts inM hown hC hP (hts _ wM_f52) hS dM_endException_133 (fun σ42 H locs e42 hP hS => ?_)
      have hE := hE.trans (bd_e e42)
      have hB : MB σ42 := by rw [e42]; exact hB
      have hl := lv_sub hl [] rfl
      exact b136 _ _ _ _ hE hl hP hB hS
  have b57_n1 : ∀ (H : Heap) (locs : List Loc) (ls : Array Slot) (σ : St) (x2 : Int32), m_endException σ0 = m_endException_57_n1 σ x2 → lv_has ls 5 [(0, .ref (q 0)), (2, .int x2), (4, .int (-1))] → va_P D vwCl (wsM q cA σ) H → MB σ → va_S (MA q) s.heap H locs → W p l e (headSpec wsM_endException { frames := 4, cells := 0, slots := 0, locals := 89 }).room s m ([.ref (q 0)] : List Value).toArray below meth c H locs 0 0 (MQ below (va_Qv (fun u => u = m_endException σ0) (MPost D q cA) (MA q)) ([.ref (q 0)] : List Value).toArray s 0 0 (MA q)) (F0 m 57 ls []) := by
    intro H locs ls σ x2 hE hl hP hB hS
    refine lv_iload hx hb dM_endException_57 (lv_at hl 2 rfl) ?_
    refine lv_if_lt (tgt := 79) hx hb dM_endException_59 rfl (fun _ => ?_) (fun h30 => absurd (by decide) h30)
    refine lv_aload_n hx hb dM_endException_79 rfl (lv_at hl 0 rfl) ?_
    refine mget_0_8 hx hb hts inM hown hC hP (hts _ wM_f26) dM_endException_80 ?_
    refine lv_bipush (v := 6) hx hb dM_endException_83 (by decide) ?_
    refine lv_aload_n hx hb dM_endException_85 rfl (lv_at hl 0 rfl) ?_
    refine mcalli (rest := [.int 6, .ref (q 5)]) ⟨hx, hb, hml, hown, hts⟩ hC hP hB hS (c_m_pop l D q cA σ) (cwV 0 hts gM_106 rfl rfl rfl hdM_pop ⟨Nat.le_of_ble_eq_true rfl, Nat.le_of_ble_eq_true rfl⟩) (mrv_0 hC hP) rfl hl.1 rfl (Nat.le_of_ble_eq_true rfl) dM_endException_86 (fun σ31 v32 H locs e31 hP hB hS => ?_)
    have hE := hE.trans (bd2_e e31)
    refine mast_5 hx hb hC hP hS (vin_c (by decide)) dM_endException_89 (fun σ33 H locs e33 hP hS => ?_)
    have hE := hE.trans (bd_e e33)
    have hB : MB σ33 := by rw [e33]; exact hB
    refine lv_aload_n hx hb dM_endException_90 rfl (lv_at hl 0 rfl) ?_
    refine mget_0_8 hx hb hts inM hown hC hP (hts _ wM_f26) dM_endException_91 ?_
    refine lv_bipush (v := 10) hx hb dM_endException_94 (by decide) ?_
    refine lv_aload_n hx hb dM_endException_96 rfl (lv_at hl 0 rfl) ?_
    refine mcalli (rest := [.int 10, .ref (q 5)]) ⟨hx, hb, hml, hown, hts⟩ hC hP hB hS (c_m_pop l D q cA σ33) (cwV 0 hts gM_106 rfl rfl rfl hdM_pop ⟨Nat.le_of_ble_eq_true rfl, Nat.le_of_ble_eq_true rfl⟩) (mrv_0 hC hP) rfl hl.1 rfl (Nat.le_of_ble_eq_true rfl) dM_endException_97 (fun σ34 v35 H locs e34 hP hB hS => ?_)
    have hE := hE.trans (bd2_e e34)
    refine lv_if_eq (tgt := 107) hx hb dM_endException_100 rfl (fun h36 => ?_) (fun h36 => ?_)
    · have hE := hE.trans (if_pos h36)
      refine lv_iconst (v := 0) hx hb dM_endException_107 (by decide) ?_
      have hl := lv_sub hl [0, 1] rfl
      exact b108_10 _ _ _ _ x2 0 hE hl hP hB hS
    · have hE := hE.trans (if_neg h36)
      refine lv_iconst (v := 1) hx hb dM_endException_103 (by decide) ?_
      refine lv_goto (tgt := 108) hx hb dM_endException_104 rfl ?_
      have hl := lv_sub hl [0, 1] rfl
      exact b108_10 _ _ _ _ x2 1 hE hl hP hB hS
  have b57_0 : ∀ (H : Heap) (locs : List Loc) (ls : Array Slot) (σ : St) (x2 : Int32), m_endException σ0 = m_endException_57_0 σ x2 → lv_has ls 5 [(0, .ref (q 0)), (2, .int x2), (4, .int 0)] → va_P D vwCl (wsM q cA σ) H → MB σ → va_S (MA q) s.heap H locs → W p l e (headSpec wsM_endException { frames := 4, cells := 0, slots := 0, locals := 89 }).room s m ([.ref (q 0)] : List Value).toArray below meth c H locs 0 0 (MQ below (va_Qv (fun u => u = m_endException σ0) (MPost D q cA) (MA q)) ([.ref (q 0)] : List Value).toArray s 0 0 (MA q)) (F0 m 57 ls []) := by
    intro H locs ls σ x2 hE hl hP hB hS
    refine lv_iload hx hb dM_endException_57 (lv_at hl 2 rfl) ?_
    refine lv_if_lt (tgt := 79) hx hb dM_endException_59 rfl (fun h26 => absurd h26 (by decide)) (fun _ => ?_)
    refine lv_aload_n hx hb dM_endException_62 rfl (lv_at hl 0 rfl) ?_
    refine mget_0_8 hx hb hts inM hown hC hP (hts _ wM_f26) dM_endException_63 ?_
    refine lv_iload hx hb dM_endException_66 (lv_at hl 2 rfl) ?_
    refine lv_aload_n hx hb dM_endException_68 rfl (lv_at hl 0 rfl) ?_
    refine mcalli (rest := [.int 0, .ref (q 5)]) ⟨hx, hb, hml, hown, hts⟩ hC hP hB hS (c_m_pop l D q cA σ) (cwV 0 hts gM_106 rfl rfl rfl hdM_pop ⟨Nat.le_of_ble_eq_true rfl, Nat.le_of_ble_eq_true rfl⟩) (mrv_0 hC hP) rfl hl.1 rfl (Nat.le_of_ble_eq_true rfl) dM_endException_69 (fun σ27 v28 H locs e27 hP hB hS => ?_)
    have hE := hE.trans (bd2_e e27)
    refine mast_5 hx hb hC hP hS (vin_c (by decide)) dM_endException_72 (fun σ29 H locs e29 hP hS => ?_)
    have hE := hE.trans (bd_e e29)
    have hB : MB σ29 := by rw [e29]; exact hB
    refine lv_iinc (k := 2) (v := (-1)) (lv' := [(4, .int (-1)), (0, .ref (q 0)), (2, .int x2)]) hx hb dM_endException_73 hl rfl (by decide) (by decide) rfl (fun ls hl => ?_)
    refine lv_goto (tgt := 57) hx hb dM_endException_76 rfl ?_
    have hl := lv_sub hl [1, 2, 0] rfl
    exact b57_n1 _ _ _ _ x2 hE hl hP hB hS
  have b57_1 : ∀ (H : Heap) (locs : List Loc) (ls : Array Slot) (σ : St) (x2 : Int32), m_endException σ0 = m_endException_57_1 σ x2 → lv_has ls 5 [(0, .ref (q 0)), (2, .int x2), (4, .int 1)] → va_P D vwCl (wsM q cA σ) H → MB σ → va_S (MA q) s.heap H locs → W p l e (headSpec wsM_endException { frames := 4, cells := 0, slots := 0, locals := 89 }).room s m ([.ref (q 0)] : List Value).toArray below meth c H locs 0 0 (MQ below (va_Qv (fun u => u = m_endException σ0) (MPost D q cA) (MA q)) ([.ref (q 0)] : List Value).toArray s 0 0 (MA q)) (F0 m 57 ls []) := by
    intro H locs ls σ x2 hE hl hP hB hS
    refine lv_iload hx hb dM_endException_57 (lv_at hl 2 rfl) ?_
    refine lv_if_lt (tgt := 79) hx hb dM_endException_59 rfl (fun h22 => absurd h22 (by decide)) (fun _ => ?_)
    refine lv_aload_n hx hb dM_endException_62 rfl (lv_at hl 0 rfl) ?_
    refine mget_0_8 hx hb hts inM hown hC hP (hts _ wM_f26) dM_endException_63 ?_
    refine lv_iload hx hb dM_endException_66 (lv_at hl 2 rfl) ?_
    refine lv_aload_n hx hb dM_endException_68 rfl (lv_at hl 0 rfl) ?_
    refine mcalli (rest := [.int 1, .ref (q 5)]) ⟨hx, hb, hml, hown, hts⟩ hC hP hB hS (c_m_pop l D q cA σ) (cwV 0 hts gM_106 rfl rfl rfl hdM_pop ⟨Nat.le_of_ble_eq_true rfl, Nat.le_of_ble_eq_true rfl⟩) (mrv_0 hC hP) rfl hl.1 rfl (Nat.le_of_ble_eq_true rfl) dM_endException_69 (fun σ23 v24 H locs e23 hP hB hS => ?_)
    have hE := hE.trans (bd2_e e23)
    refine mast_5 hx hb hC hP hS (vin_c (by decide)) dM_endException_72 (fun σ25 H locs e25 hP hS => ?_)
    have hE := hE.trans (bd_e e25)
    have hB : MB σ25 := by rw [e25]; exact hB
    refine lv_iinc (k := 2) (v := 0) (lv' := [(4, .int 0), (0, .ref (q 0)), (2, .int x2)]) hx hb dM_endException_73 hl rfl (by decide) (by decide) rfl (fun ls hl => ?_)
    refine lv_goto (tgt := 57) hx hb dM_endException_76 rfl ?_
    have hl := lv_sub hl [1, 2, 0] rfl
    exact b57_0 _ _ _ _ x2 hE hl hP hB hS
  have b57_2 : ∀ (H : Heap) (locs : List Loc) (ls : Array Slot) (σ : St) (x2 : Int32), m_endException σ0 = m_endException_57_2 σ x2 → lv_has ls 5 [(0, .ref (q 0)), (2, .int x2), (4, .int 2)] → va_P D vwCl (wsM q cA σ) H → MB σ → va_S (MA q) s.heap H locs → W p l e (headSpec wsM_endException { frames := 4, cells := 0, slots := 0, locals := 89 }).room s m ([.ref (q 0)] : List Value).toArray below meth c H locs 0 0 (MQ below (va_Qv (fun u => u = m_endException σ0) (MPost D q cA) (MA q)) ([.ref (q 0)] : List Value).toArray s 0 0 (MA q)) (F0 m 57 ls []) := by
    intro H locs ls σ x2 hE hl hP hB hS
    refine lv_iload hx hb dM_endException_57 (lv_at hl 2 rfl) ?_
    refine lv_if_lt (tgt := 79) hx hb dM_endException_59 rfl (fun h18 => absurd h18 (by decide)) (fun _ => ?_)
    refine lv_aload_n hx hb dM_endException_62 rfl (lv_at hl 0 rfl) ?_
    refine mget_0_8 hx hb hts inM hown hC hP (hts _ wM_f26) dM_endException_63 ?_
    refine lv_iload hx hb dM_endException_66 (lv_at hl 2 rfl) ?_
    refine lv_aload_n hx hb dM_endException_68 rfl (lv_at hl 0 rfl) ?_
    refine mcalli (rest := [.int 2, .ref (q 5)]) ⟨hx, hb, hml, hown, hts⟩ hC hP hB hS (c_m_pop l D q cA σ) (cwV 0 hts gM_106 rfl rfl rfl hdM_pop ⟨Nat.le_of_ble_eq_true rfl, Nat.le_of_ble_eq_true rfl⟩) (mrv_0 hC hP) rfl hl.1 rfl (Nat.le_of_ble_eq_true rfl) dM_endException_69 (fun σ19 v20 H locs e19 hP hB hS => ?_)
    have hE := hE.trans (bd2_e e19)
    refine mast_5 hx hb hC hP hS (vin_c (by decide)) dM_endException_72 (fun σ21 H locs e21 hP hS => ?_)
    have hE := hE.trans (bd_e e21)
    have hB : MB σ21 := by rw [e21]; exact hB
    refine lv_iinc (k := 2) (v := 1) (lv' := [(4, .int 1), (0, .ref (q 0)), (2, .int x2)]) hx hb dM_endException_73 hl rfl (by decide) (by decide) rfl (fun ls hl => ?_)
    refine lv_goto (tgt := 57) hx hb dM_endException_76 rfl ?_
    have hl := lv_sub hl [1, 2, 0] rfl
    exact b57_1 _ _ _ _ x2 hE hl hP hB hS
  have b57_3 : ∀ (H : Heap) (locs : List Loc) (ls : Array Slot) (σ : St) (x2 : Int32), m_endException σ0 = m_endException_57_3 σ x2 → lv_has ls 5 [(0, .ref (q 0)), (2, .int x2), (4, .int 3)] → va_P D vwCl (wsM q cA σ) H → MB σ → va_S (MA q) s.heap H locs → W p l e (headSpec wsM_endException { frames := 4, cells := 0, slots := 0, locals := 89 }).room s m ([.ref (q 0)] : List Value).toArray below meth c H locs 0 0 (MQ below (va_Qv (fun u => u = m_endException σ0) (MPost D q cA) (MA q)) ([.ref (q 0)] : List Value).toArray s 0 0 (MA q)) (F0 m 57 ls []) := by
    intro H locs ls σ x2 hE hl hP hB hS
    refine lv_iload hx hb dM_endException_57 (lv_at hl 2 rfl) ?_
    refine lv_if_lt (tgt := 79) hx hb dM_endException_59 rfl (fun h14 => absurd h14 (by decide)) (fun _ => ?_)
    refine lv_aload_n hx hb dM_endException_62 rfl (lv_at hl 0 rfl) ?_
    refine mget_0_8 hx hb hts inM hown hC hP (hts _ wM_f26) dM_endException_63 ?_
    refine lv_iload hx hb dM_endException_66 (lv_at hl 2 rfl) ?_
    refine lv_aload_n hx hb dM_endException_68 rfl (lv_at hl 0 rfl) ?_
    refine mcalli (rest := [.int 3, .ref (q 5)]) ⟨hx, hb, hml, hown, hts⟩ hC hP hB hS (c_m_pop l D q cA σ) (cwV 0 hts gM_106 rfl rfl rfl hdM_pop ⟨Nat.le_of_ble_eq_true rfl, Nat.le_of_ble_eq_true rfl⟩) (mrv_0 hC hP) rfl hl.1 rfl (Nat.le_of_ble_eq_true rfl) dM_endException_69 (fun σ15 v16 H locs e15 hP hB hS => ?_)
    have hE := hE.trans (bd2_e e15)
    refine mast_5 hx hb hC hP hS (vin_c (by decide)) dM_endException_72 (fun σ17 H locs e17 hP hS => ?_)
    have hE := hE.trans (bd_e e17)
    have hB : MB σ17 := by rw [e17]; exact hB
    refine lv_iinc (k := 2) (v := 2) (lv' := [(4, .int 2), (0, .ref (q 0)), (2, .int x2)]) hx hb dM_endException_73 hl rfl (by decide) (by decide) rfl (fun ls hl => ?_)
    refine lv_goto (tgt := 57) hx hb dM_endException_76 rfl ?_
    have hl := lv_sub hl [1, 2, 0] rfl
    exact b57_2 _ _ _ _ x2 hE hl hP hB hS
  have b57_4 : ∀ (H : Heap) (locs : List Loc) (ls : Array Slot) (σ : St) (x2 : Int32), m_endException σ0 = m_endException_57_4 σ x2 → lv_has ls 5 [(0, .ref (q 0)), (2, .int x2), (4, .int 4)] → va_P D vwCl (wsM q cA σ) H → MB σ → va_S (MA q) s.heap H locs → W p l e (headSpec wsM_endException { frames := 4, cells := 0, slots := 0, locals := 89 }).room s m ([.ref (q 0)] : List Value).toArray below meth c H locs 0 0 (MQ below (va_Qv (fun u => u = m_endException σ0) (MPost D q cA) (MA q)) ([.ref (q 0)] : List Value).toArray s 0 0 (MA q)) (F0 m 57 ls []) := by
    intro H locs ls σ x2 hE hl hP hB hS
    refine lv_iload hx hb dM_endException_57 (lv_at hl 2 rfl) ?_
    refine lv_if_lt (tgt := 79) hx hb dM_endException_59 rfl (fun h10 => absurd h10 (by decide)) (fun _ => ?_)
    refine lv_aload_n hx hb dM_endException_62 rfl (lv_at hl 0 rfl) ?_
    refine mget_0_8 hx hb hts inM hown hC hP (hts _ wM_f26) dM_endException_63 ?_
    refine lv_iload hx hb dM_endException_66 (lv_at hl 2 rfl) ?_
    refine lv_aload_n hx hb dM_endException_68 rfl (lv_at hl 0 rfl) ?_
    refine mcalli (rest := [.int 4, .ref (q 5)]) ⟨hx, hb, hml, hown, hts⟩ hC hP hB hS (c_m_pop l D q cA σ) (cwV 0 hts gM_106 rfl rfl rfl hdM_pop ⟨Nat.le_of_ble_eq_true rfl, Nat.le_of_ble_eq_true rfl⟩) (mrv_0 hC hP) rfl hl.1 rfl (Nat.le_of_ble_eq_true rfl) dM_endException_69 (fun σ11 v12 H locs e11 hP hB hS => ?_)
    have hE := hE.trans (bd2_e e11)
    refine mast_5 hx hb hC hP hS (vin_c (by decide)) dM_endException_72 (fun σ13 H locs e13 hP hS => ?_)
    have hE := hE.trans (bd_e e13)
    have hB : MB σ13 := by rw [e13]; exact hB
    refine lv_iinc (k := 2) (v := 3) (lv' := [(4, .int 3), (0, .ref (q 0)), (2, .int x2)]) hx hb dM_endException_73 hl rfl (by decide) (by decide) rfl (fun ls hl => ?_)
    refine lv_goto (tgt := 57) hx hb dM_endException_76 rfl ?_
    have hl := lv_sub hl [1, 2, 0] rfl
    exact b57_3 _ _ _ _ x2 hE hl hP hB hS
  have b57_5 : ∀ (H : Heap) (locs : List Loc) (ls : Array Slot) (σ : St) (x2 : Int32), m_endException σ0 = m_endException_57_5 σ x2 → lv_has ls 5 [(0, .ref (q 0)), (2, .int x2), (4, .int 5)] → va_P D vwCl (wsM q cA σ) H → MB σ → va_S (MA q) s.heap H locs → W p l e (headSpec wsM_endException { frames := 4, cells := 0, slots := 0, locals := 89 }).room s m ([.ref (q 0)] : List Value).toArray below meth c H locs 0 0 (MQ below (va_Qv (fun u => u = m_endException σ0) (MPost D q cA) (MA q)) ([.ref (q 0)] : List Value).toArray s 0 0 (MA q)) (F0 m 57 ls []) := by
    intro H locs ls σ x2 hE hl hP hB hS
    refine lv_iload hx hb dM_endException_57 (lv_at hl 2 rfl) ?_
    refine lv_if_lt (tgt := 79) hx hb dM_endException_59 rfl (fun h6 => absurd h6 (by decide)) (fun _ => ?_)
    refine lv_aload_n hx hb dM_endException_62 rfl (lv_at hl 0 rfl) ?_
    refine mget_0_8 hx hb hts inM hown hC hP (hts _ wM_f26) dM_endException_63 ?_
    refine lv_iload hx hb dM_endException_66 (lv_at hl 2 rfl) ?_
    refine lv_aload_n hx hb dM_endException_68 rfl (lv_at hl 0 rfl) ?_
    refine mcalli (rest := [.int 5, .ref (q 5)]) ⟨hx, hb, hml, hown, hts⟩ hC hP hB hS (c_m_pop l D q cA σ) (cwV 0 hts gM_106 rfl rfl rfl hdM_pop ⟨Nat.le_of_ble_eq_true rfl, Nat.le_of_ble_eq_true rfl⟩) (mrv_0 hC hP) rfl hl.1 rfl (Nat.le_of_ble_eq_true rfl) dM_endException_69 (fun σ7 v8 H locs e7 hP hB hS => ?_)
    have hE := hE.trans (bd2_e e7)
    refine mast_5 hx hb hC hP hS (vin_c (by decide)) dM_endException_72 (fun σ9 H locs e9 hP hS => ?_)
    have hE := hE.trans (bd_e e9)
    have hB : MB σ9 := by rw [e9]; exact hB
    refine lv_iinc (k := 2) (v := 4) (lv' := [(4, .int 4), (0, .ref (q 0)), (2, .int x2)]) hx hb dM_endException_73 hl rfl (by decide) (by decide) rfl (fun ls hl => ?_)
    refine lv_goto (tgt := 57) hx hb dM_endException_76 rfl ?_
    have hl := lv_sub hl [1, 2, 0] rfl
    exact b57_4 _ _ _ _ x2 hE hl hP hB hS
  have b54 : ∀ (H : Heap) (locs : List Loc) (ls : Array Slot) (σ : St) (x2 : Int32), m_endException σ0 = m_endException_54 σ x2 → lv_has ls 5 [(0, .ref (q 0)), (2, .int x2)] → va_P D vwCl (wsM q cA σ) H → MB σ → va_S (MA q) s.heap H locs → W p l e (headSpec wsM_endException { frames := 4, cells := 0, slots := 0, locals := 89 }).room s m ([.ref (q 0)] : List Value).toArray below meth c H locs 0 0 (MQ below (va_Qv (fun u => u = m_endException σ0) (MPost D q cA) (MA q)) ([.ref (q 0)] : List Value).toArray s 0 0 (MA q)) (F0 m 54 ls []) := by
    intro H locs ls σ x2 hE hl hP hB hS
    refine lv_iconst (v := 5) hx hb dM_endException_54 (by decide) ?_
    refine lv_istore (lv' := [(4, .int 5), (0, .ref (q 0)), (2, .int x2)]) hx hb dM_endException_55 hl (by decide) rfl (fun ls hl => ?_)
    have hl := lv_sub hl [1, 2, 0] rfl
    exact b57_5 _ _ _ _ x2 hE hl hP hB hS
  have b34_11 : ∀ (H : Heap) (locs : List Loc) (ls : Array Slot) (σ : St) (x2 : Int32) (y0 : Int32), m_endException σ0 = m_endException_34_11 σ x2 y0 → lv_has ls 5 [(0, .ref (q 0)), (2, .int x2)] → va_P D vwCl (wsM q cA σ) H → MB σ → va_S (MA q) s.heap H locs → W p l e (headSpec wsM_endException { frames := 4, cells := 0, slots := 0, locals := 89 }).room s m ([.ref (q 0)] : List Value).toArray below meth c H locs 0 0 (MQ below (va_Qv (fun u => u = m_endException σ0) (MPost D q cA) (MA q)) ([.ref (q 0)] : List Value).toArray s 0 0 (MA q)) (F0 m 34 ls [.int y0, .int 11, .ref (q 5)]) := by
    intro H locs ls σ x2 y0 hE hl hP hB hS
    refine mast_5 hx hb hC hP hS (vin_c (by decide)) dM_endException_34 (fun σ2 H locs e2 hP hS => ?_)
    have hE := hE.trans (bd_e e2)
    have hB : MB σ2 := by rw [e2]; exact hB
    refine lv_aload_n hx hb dM_endException_35 rfl (lv_at hl 0 rfl) ?_
    refine mcalli (rest := []) ⟨hx, hb, hml, hown, hts⟩ hC hP hB hS (c_m_pop l D q cA σ2) (cwV 0 hts gM_106 rfl rfl rfl hdM_pop ⟨Nat.le_of_ble_eq_true rfl, Nat.le_of_ble_eq_true rfl⟩) (mrv_0 hC hP) rfl hl.1 rfl (Nat.le_of_ble_eq_true rfl) dM_endException_36 (fun σ3 v4 H locs e3 hP hB hS => ?_)
    have hE := hE.trans (bd2_e e3)
    refine lv_istore_n (lv' := [(3, .int v4), (0, .ref (q 0)), (2, .int x2)]) hx hb dM_endException_39 rfl hl (by decide) rfl (fun ls hl => ?_)
    refine lv_iload_n hx hb dM_endException_40 rfl (lv_at hl 0 rfl) ?_
    refine lv_sipush (v := 1000) hx hb dM_endException_41 (by decide) ?_
    refine lv_iload_n hx hb dM_endException_44 rfl (lv_at hl 2 rfl) ?_
    refine lv_iadd hx hb dM_endException_45 ?_
    refine lv_icmp_eq (tgt := 54) hx hb dM_endException_46 rfl (fun h5 => ?_) (fun h5 => ?_)
    · have hE := hE.trans (if_pos h5)
      have hl := lv_sub hl [1, 2] rfl
      exact b54 _ _ _ _ x2 hE hl hP hB hS
    · have hE := hE.trans (if_neg h5)
      refine lv_aload_n hx hb dM_endException_49 rfl (lv_at hl 1 rfl) ?_
      refine lv_iconst (v := 2) hx hb dM_endException_50 (by decide) ?_
      refine mcallv (rest := []) ⟨hx, hb, hml, hown, hts⟩ hC hP hB hS (c_m_speak l D q cA σ3 2) (cwV 1 hts gM_72 rfl rfl rfl hdM_speak ⟨Nat.le_of_ble_eq_true rfl, Nat.le_of_ble_eq_true rfl⟩) (mrv_0 hC hP) rfl hl.1 rfl (Nat.le_of_ble_eq_true rfl) dM_endException_51 (fun σ43 H locs e43 hP hB hS => ?_)
      have hE := hE.trans (bd_e e43)
      have hl := lv_sub hl [1, 2] rfl
      exact b54 _ _ _ _ x2 hE hl hP hB hS
  refine lv_aload_n hx hb dM_endException_0 rfl (lv_at hl 0 rfl) ?_
  refine mget_0_8 hx hb hts inM hown hC hP (hts _ wM_f26) dM_endException_1 ?_
  refine lv_bipush (v := 6) hx hb dM_endException_4 (by decide) ?_
  refine mald_5 hx hb hC hP (vin_c (by decide)) dM_endException_6 ?_
  refine lv_ldc (v := 65408) hx hb hown (hts _ wM_c99) dM_endException_7 ?_
  refine lv_isub hx hb dM_endException_9 ?_
  refine lv_istore_n (lv' := [(1, .int ((σ0 5 (ix 6)) - 65408)), (0, .ref (q 0))]) hx hb dM_endException_10 rfl hl (by decide) rfl (fun ls hl => ?_)
  refine lv_iload_n hx hb dM_endException_11 rfl (lv_at hl 0 rfl) ?_
  refine lv_bipush (v := 16) hx hb dM_endException_12 (by decide) ?_
  refine lv_idiv hx hb dM_endException_14 (by decide) ?_
  refine lv_istore_n (lv' := [(2, .int (((σ0 5 (ix 6)) - 65408) / 16)), (1, .int ((σ0 5 (ix 6)) - 65408)), (0, .ref (q 0))]) hx hb dM_endException_15 rfl hl (by decide) rfl (fun ls hl => ?_)
  refine lv_aload_n hx hb dM_endException_16 rfl (lv_at hl 2 rfl) ?_
  refine mget_0_8 hx hb hts inM hown hC hP (hts _ wM_f26) dM_endException_17 ?_
  refine lv_bipush (v := 11) hx hb dM_endException_20 (by decide) ?_
  refine lv_iload_n hx hb dM_endException_22 rfl (lv_at hl 1 rfl) ?_
  refine lv_iconst (v := 1) hx hb dM_endException_23 (by decide) ?_
  refine lv_iand hx hb dM_endException_24 ?_
  refine lv_iconst (v := 1) hx hb dM_endException_25 (by decide) ?_
  refine lv_icmp_ne (tgt := 33) hx hb dM_endException_26 rfl (fun h1 => ?_) (fun h1 => ?_)
  · have hE := hE.trans (if_neg h1)
    refine lv_iconst (v := 1) hx hb dM_endException_33 (by decide) ?_
    have hl := lv_sub hl [2, 0] rfl
    exact b34_11 _ _ _ _ (((σ0 5 (ix 6)) - 65408) / 16) 1 hE hl hP hB hS
  · have hE := hE.trans (if_pos h1)
    refine lv_iconst (v := 0) hx hb dM_endException_29 (by decide) ?_
    refine lv_goto (tgt := 34) hx hb dM_endException_30 rfl ?_
    have hl := lv_sub hl [2, 0] rfl
    exact b34_11 _ _ _ _ (((σ0 5 (ix 6)) - 65408) / 16) 0 hE hl hP hB hS
set_option maxRecDepth 100000 in
set_option maxHeartbeats 4000000 in
theorem c_m_returns (l : Launch) (D : va_G) (q : Nat → Nat) (cA : ClassId) (σ0 : St) : Met l yM_returns wsM_returns { frames := 5, cells := 0, slots := 0, locals := 113 } (va_Pc [.ref (q 0)] (MPre D q cA σ0)) (va_Qv (fun u => u = m_returns σ0) (MPost D q cA) (MA q)) 0 0 (MA q) := by
  refine Met.ofW (cc := cM_returns) (maxL := 3) (ret := none) (by decide) rfl ?_
  intro p e s m args below meth c s₁ B hml hv
  obtain ⟨rfl, hP, hB, hC⟩ := hv
  have hx := B.exec
  have hb := B.bytes
  have hr := B.returns
  have hts : ∀ w ∈ gw, w.before ([.ref (q 0)] : List Value).toArray s = true := fun w h => atoms_spec (ws := wsM_returns) B.pre w (List.mem_cons_of_mem _ h)
  have hown : s.vm.findClass RM = some m.cls := findClass_of_methodNamed B.named
  have hlocks := B.notSynchronized
  have hS : va_S (MA q) s.heap s.heap [] := va_S.rf
  have hl := lv_entry ([.ref (q 0)]) (n := 3) (Nat.le_of_ble_eq_true rfl)
  rw [lg_entry_eq]
  generalize (lg_sl ([.ref (q 0)]) ++ List.replicate (3 - (lg_sl ([.ref (q 0)])).length) Slot.unset).toArray = ls at hl ⊢
  have hl : lv_has ls 3 [(0, .ref (q 0))] := hl
  have hE : m_returns σ0 = m_returns σ0 := rfl
  have b152 : ∀ (H : Heap) (locs : List Loc) (ls : Array Slot) (σ : St), m_returns σ0 = m_returns_152 σ → lv_has ls 3 [] → va_P D vwCl (wsM q cA σ) H → MB σ → va_S (MA q) s.heap H locs → W p l e (headSpec wsM_returns { frames := 5, cells := 0, slots := 0, locals := 113 }).room s m ([.ref (q 0)] : List Value).toArray below meth c H locs 0 0 (MQ below (va_Qv (fun u => u = m_returns σ0) (MPost D q cA) (MA q)) ([.ref (q 0)] : List Value).toArray s 0 0 (MA q)) (F0 m 152 ls []) := by
    intro H locs ls σ hE hl hP hB hS
    exact W.vret hx hb hr (fun t ht hW => ⟨⟨σ, rfl, hE.symm, ⟨by rw [ht]; exact hP, hB⟩⟩, hS.F ht⟩) hS.2.2 dM_returns_152
  have b147 : ∀ (H : Heap) (locs : List Loc) (ls : Array Slot) (σ : St), m_returns σ0 = m_returns_147 σ → lv_has ls 3 [(0, .ref (q 0))] → va_P D vwCl (wsM q cA σ) H → MB σ → va_S (MA q) s.heap H locs → W p l e (headSpec wsM_returns { frames := 5, cells := 0, slots := 0, locals := 113 }).room s m ([.ref (q 0)] : List Value).toArray below meth c H locs 0 0 (MQ below (va_Qv (fun u => u = m_returns σ0) (MPost D q cA) (MA q)) ([.ref (q 0)] : List Value).toArray s 0 0 (MA q)) (F0 m 147 ls []) := by
    intro H locs ls σ hE hl hP hB hS
    refine lv_aload_n hx hb dM_returns_147 rfl (lv_at hl 0 rfl) ?_
    refine lv_iconst (v := 2) hx hb dM_returns_148 (by decide) ?_
    refine mcallv (rest := []) ⟨hx, hb, hml, hown, hts⟩ hC hP hB hS (c_m_speak l D q cA σ 2) (cwV 1 hts gM_72 rfl rfl rfl hdM_speak ⟨Nat.le_of_ble_eq_true rfl, Nat.le_of_ble_eq_true rfl⟩) (mrv_0 hC hP) rfl hl.1 rfl (Nat.le_of_ble_eq_true rfl) dM_returns_149 (fun σ5 H locs e5 hP hB hS => ?_)
    have hE := hE.trans (bd_e e5)
    have hl := lv_sub hl [] rfl
    exact b152 _ _ _ _ hE hl hP hB hS
  have b121 : ∀ (H : Heap) (locs : List Loc) (ls : Array Slot) (σ : St) (x1 : Int32), m_returns σ0 = m_returns_121 σ x1 → lv_has ls 3 [(0, .ref (q 0)), (1, .int x1)] → va_P D vwCl (wsM q cA σ) H → MB σ → va_S (MA q) s.heap H locs → W p l e (headSpec wsM_returns { frames := 5, cells := 0, slots := 0, locals := 113 }).room s m ([.ref (q 0)] : List Value).toArray below meth c H locs 0 0 (MQ below (va_Qv (fun u => u = m_returns σ0) (MPost D q cA) (MA q)) ([.ref (q 0)] : List Value).toArray s 0 0 (MA q)) (F0 m 121 ls []) := by
    intro H locs ls σ x1 hE hl hP hB hS
    refine lv_iload_n hx hb dM_returns_121 rfl (lv_at hl 1 rfl) ?_
    refine lv_ldc (v := 65408) hx hb hown (hts _ wM_c99) dM_returns_122 ?_
    refine lv_icmp_lt (tgt := 147) hx hb dM_returns_124 rfl (fun h4 => ?_) (fun h4 => ?_)
    · have hE := hE.trans (if_pos h4)
      have hl := lv_sub hl [0] rfl
      exact b147 _ _ _ _ hE hl hP hB hS
    · have hE := hE.trans (if_neg h4)
      refine lv_iload_n hx hb dM_returns_127 rfl (lv_at hl 1 rfl) ?_
      refine lv_ldc (v := 65520) hx hb hown (hts _ wM_c110) dM_returns_128 ?_
      refine lv_icmp_ge (tgt := 147) hx hb dM_returns_130 rfl (fun h6 => ?_) (fun h6 => ?_)
      · have hE := hE.trans (if_pos h6)
        have hl := lv_sub hl [0] rfl
        exact b147 _ _ _ _ hE hl hP hB hS
      · have hE := hE.trans (if_neg h6)
        refine lv_aload_n hx hb dM_returns_133 rfl (lv_at hl 0 rfl) ?_
        refine mget_0_10 hx hb hts inM hown hC hP (hts _ wM_f52) dM_returns_134 ?_
        refine lv_if_eq (tgt := 147) hx hb dM_returns_137 rfl (fun h7 => ?_) (fun h7 => ?_)
        · have hE := hE.trans (if_pos h7)
          have hl := lv_sub hl [0] rfl
          exact b147 _ _ _ _ hE hl hP hB hS
        · have hE := hE.trans (if_neg h7)
          refine lv_aload_n hx hb dM_returns_140 rfl (lv_at hl 0 rfl) ?_
          refine mcallv (rest := []) ⟨hx, hb, hml, hown, hts⟩ hC hP hB hS (c_m_endException l D q cA σ) (cwV 0 hts gM_111 rfl rfl rfl hdM_endException ⟨Nat.le_of_ble_eq_true rfl, Nat.le_of_ble_eq_true rfl⟩) (mrv_0 hC hP) rfl hl.1 rfl (Nat.le_of_ble_eq_true rfl) dM_returns_141 (fun σ8 H locs e8 hP hB hS => ?_)
          have hE := hE.trans (bd_e e8)
          refine lv_goto (tgt := 152) hx hb dM_returns_144 rfl ?_
          have hl := lv_sub hl [] rfl
          exact b152 _ _ _ _ hE hl hP hB hS
  have b103 : ∀ (H : Heap) (locs : List Loc) (ls : Array Slot) (σ : St), m_returns σ0 = m_returns_103 σ → lv_has ls 3 [(0, .ref (q 0))] → va_P D vwCl (wsM q cA σ) H → MB σ → va_S (MA q) s.heap H locs → W p l e (headSpec wsM_returns { frames := 5, cells := 0, slots := 0, locals := 113 }).room s m ([.ref (q 0)] : List Value).toArray below meth c H locs 0 0 (MQ below (va_Qv (fun u => u = m_returns σ0) (MPost D q cA) (MA q)) ([.ref (q 0)] : List Value).toArray s 0 0 (MA q)) (F0 m 103 ls []) := by
    intro H locs ls σ hE hl hP hB hS
    refine lv_aload_n hx hb dM_returns_103 rfl (lv_at hl 0 rfl) ?_
    refine mget_0_8 hx hb hts inM hown hC hP (hts _ wM_f26) dM_returns_104 ?_
    refine lv_bipush (v := 7) hx hb dM_returns_107 (by decide) ?_
    refine lv_aload_n hx hb dM_returns_109 rfl (lv_at hl 0 rfl) ?_
    refine mcalli (rest := [.int 7, .ref (q 5)]) ⟨hx, hb, hml, hown, hts⟩ hC hP hB hS (c_m_pop l D q cA σ) (cwV 0 hts gM_106 rfl rfl rfl hdM_pop ⟨Nat.le_of_ble_eq_true rfl, Nat.le_of_ble_eq_true rfl⟩) (mrv_0 hC hP) rfl hl.1 rfl (Nat.le_of_ble_eq_true rfl) dM_returns_110 (fun σ16 v17 H locs e16 hP hB hS => ?_)
    have hE := hE.trans (bd2_e e16)
    refine lv_sipush (v := 255) hx hb dM_returns_113 (by decide) ?_
    refine lv_iand hx hb dM_returns_116 ?_
    refine mast_5 hx hb hC hP hS (vin_c (by decide)) dM_returns_117 (fun σ18 H locs e18 hP hS => ?_)
    have hE := hE.trans (bd_e e18)
    have hB : MB σ18 := by rw [e18]; exact hB
    refine lv_goto (tgt := 152) hx hb dM_returns_118 rfl ?_
    have hl := lv_sub hl [] rfl
    exact b152 _ _ _ _ hE hl hP hB hS
  have b65 : ∀ (H : Heap) (locs : List Loc) (ls : Array Slot) (σ : St) (x1 : Int32), m_returns σ0 = m_returns_65 σ x1 → lv_has ls 3 [(0, .ref (q 0)), (1, .int x1)] → va_P D vwCl (wsM q cA σ) H → MB σ → va_S (MA q) s.heap H locs → W p l e (headSpec wsM_returns { frames := 5, cells := 0, slots := 0, locals := 113 }).room s m ([.ref (q 0)] : List Value).toArray below meth c H locs 0 0 (MQ below (va_Qv (fun u => u = m_returns σ0) (MPost D q cA) (MA q)) ([.ref (q 0)] : List Value).toArray s 0 0 (MA q)) (F0 m 65 ls []) := by
    intro H locs ls σ x1 hE hl hP hB hS
    refine lv_iload_n hx hb dM_returns_65 rfl (lv_at hl 1 rfl) ?_
    refine lv_ldc (v := 65520) hx hb hown (hts _ wM_c110) dM_returns_66 ?_
    refine lv_icmp_ne (tgt := 121) hx hb dM_returns_68 rfl (fun h3 => ?_) (fun h3 => ?_)
    · have hE := hE.trans (if_neg h3)
      exact b121 _ _ _ _ x1 hE hl hP hB hS
    · have hE := hE.trans (if_pos h3)
      refine lv_aload_n hx hb dM_returns_71 rfl (lv_at hl 0 rfl) ?_
      refine mcalli (rest := []) ⟨hx, hb, hml, hown, hts⟩ hC hP hB hS (c_m_isOpenWorld l D q cA σ) (cwV 0 hts gM_61 rfl rfl rfl hdM_isOpenWorld ⟨Nat.le_of_ble_eq_true rfl, Nat.le_of_ble_eq_true rfl⟩) (mrv_0 hC hP) rfl hl.1 rfl (Nat.le_of_ble_eq_true rfl) dM_returns_72 (fun σ9 v10 H locs e9 hP hB hS => ?_)
      have z9 : zb v10 := e9.2
      have hE := hE.trans (bd2_e e9.1)
      refine lv_if_eq (tgt := 121) hx hb dM_returns_75 rfl (fun h11 => ?_) (fun h11 => ?_)
      · have hE := hE.trans (if_pos h11)
        exact b121 _ _ _ _ x1 hE hl hP hB hS
      · have hE := hE.trans (if_neg h11)
        refine lv_aload_n hx hb dM_returns_78 rfl (lv_at hl 0 rfl) ?_
        refine mget_0_8 hx hb hts inM hown hC hP (hts _ wM_f26) dM_returns_79 ?_
        refine lv_bipush (v := 11) hx hb dM_returns_82 (by decide) ?_
        refine lv_iconst (v := 0) hx hb dM_returns_84 (by decide) ?_
        refine mast_5 hx hb hC hP hS (vin_c (by decide)) dM_returns_85 (fun σ12 H locs e12 hP hS => ?_)
        have hE := hE.trans (bd_e e12)
        have hB : MB σ12 := by rw [e12]; exact hB
        refine lv_aload_n hx hb dM_returns_86 rfl (lv_at hl 0 rfl) ?_
        refine mcalli (rest := []) ⟨hx, hb, hml, hown, hts⟩ hC hP hB hS (c_m_pop l D q cA σ12) (cwV 0 hts gM_106 rfl rfl rfl hdM_pop ⟨Nat.le_of_ble_eq_true rfl, Nat.le_of_ble_eq_true rfl⟩) (mrv_0 hC hP) rfl hl.1 rfl (Nat.le_of_ble_eq_true rfl) dM_returns_87 (fun σ13 v14 H locs e13 hP hB hS => ?_)
        have hE := hE.trans (bd2_e e13)
        refine lv_istore_n (lv' := [(2, .int v14), (0, .ref (q 0)), (1, .int x1)]) hx hb dM_returns_90 rfl hl (by decide) rfl (fun ls hl => ?_)
        refine lv_iload_n hx hb dM_returns_91 rfl (lv_at hl 0 rfl) ?_
        refine lv_sipush (v := 4096) hx hb dM_returns_92 (by decide) ?_
        refine lv_icmp_eq (tgt := 103) hx hb dM_returns_95 rfl (fun h15 => ?_) (fun h15 => ?_)
        · have hE := hE.trans (if_pos h15)
          have hl := lv_sub hl [1] rfl
          exact b103 _ _ _ _ hE hl hP hB hS
        · have hE := hE.trans (if_neg h15)
          refine lv_aload_n hx hb dM_returns_98 rfl (lv_at hl 1 rfl) ?_
          refine lv_iconst (v := 2) hx hb dM_returns_99 (by decide) ?_
          refine mcallv (rest := []) ⟨hx, hb, hml, hown, hts⟩ hC hP hB hS (c_m_speak l D q cA σ13 2) (cwV 1 hts gM_72 rfl rfl rfl hdM_speak ⟨Nat.le_of_ble_eq_true rfl, Nat.le_of_ble_eq_true rfl⟩) (mrv_0 hC hP) rfl hl.1 rfl (Nat.le_of_ble_eq_true rfl) dM_returns_100 (fun σ19 H locs e19 hP hB hS => ?_)
          have hE := hE.trans (bd_e e19)
          have hl := lv_sub hl [1] rfl
          exact b103 _ _ _ _ hE hl hP hB hS
  refine lv_aload_n hx hb dM_returns_0 rfl (lv_at hl 0 rfl) ?_
  refine mget_0_8 hx hb hts inM hown hC hP (hts _ wM_f26) dM_returns_1 ?_
  refine lv_bipush (v := 6) hx hb dM_returns_4 (by decide) ?_
  refine mald_5 hx hb hC hP (vin_c (by decide)) dM_returns_6 ?_
  refine lv_istore_n (lv' := [(1, .int (σ0 5 (ix 6))), (0, .ref (q 0))]) hx hb dM_returns_7 rfl hl (by decide) rfl (fun ls hl => ?_)
  refine lv_iload_n hx hb dM_returns_8 rfl (lv_at hl 0 rfl) ?_
  refine lv_ldc (v := 32768) hx hb hown (hts _ wM_c109) dM_returns_9 ?_
  refine lv_icmp_ge (tgt := 29) hx hb dM_returns_11 rfl (fun h1 => ?_) (fun h1 => ?_)
  · have hE := hE.trans (if_pos h1)
    refine lv_iload_n hx hb dM_returns_29 rfl (lv_at hl 0 rfl) ?_
    refine lv_ldc (v := 65408) hx hb hown (hts _ wM_c99) dM_returns_30 ?_
    refine lv_icmp_ge (tgt := 65) hx hb dM_returns_32 rfl (fun h2 => ?_) (fun h2 => ?_)
    · have hE := hE.trans (if_pos h2)
      have hl := lv_sub hl [1, 0] rfl
      exact b65 _ _ _ _ (σ0 5 (ix 6)) hE hl hP hB hS
    · have hE := hE.trans (if_neg h2)
      refine lv_aload_n hx hb dM_returns_35 rfl (lv_at hl 1 rfl) ?_
      refine mcalli (rest := []) ⟨hx, hb, hml, hown, hts⟩ hC hP hB hS (c_m_isOpenWorld l D q cA σ0) (cwV 0 hts gM_61 rfl rfl rfl hdM_isOpenWorld ⟨Nat.le_of_ble_eq_true rfl, Nat.le_of_ble_eq_true rfl⟩) (mrv_0 hC hP) rfl hl.1 rfl (Nat.le_of_ble_eq_true rfl) dM_returns_36 (fun σ20 v21 H locs e20 hP hB hS => ?_)
      have z20 : zb v21 := e20.2
      have hE := hE.trans (bd2_e e20.1)
      refine lv_if_ne (tgt := 65) hx hb dM_returns_39 rfl (fun h22 => ?_) (fun h22 => ?_)
      · have hE := hE.trans (if_neg h22)
        have hl := lv_sub hl [1, 0] rfl
        exact b65 _ _ _ _ (σ0 5 (ix 6)) hE hl hP hB hS
      · have hE := hE.trans (if_pos h22)
        refine lv_aload_n hx hb dM_returns_42 rfl (lv_at hl 1 rfl) ?_
        refine mget_0_8 hx hb hts inM hown hC hP (hts _ wM_f26) dM_returns_43 ?_
        refine lv_bipush (v := 11) hx hb dM_returns_46 (by decide) ?_
        refine lv_iconst (v := 1) hx hb dM_returns_48 (by decide) ?_
        refine mast_5 hx hb hC hP hS (vin_c (by decide)) dM_returns_49 (fun σ23 H locs e23 hP hS => ?_)
        have hE := hE.trans (bd_e e23)
        have hB : MB σ23 := by rw [e23]; exact hB
        refine lv_aload_n hx hb dM_returns_50 rfl (lv_at hl 1 rfl) ?_
        refine mget_0_8 hx hb hts inM hown hC hP (hts _ wM_f26) dM_returns_51 ?_
        refine lv_bipush (v := 7) hx hb dM_returns_54 (by decide) ?_
        refine lv_iload_n hx hb dM_returns_56 rfl (lv_at hl 0 rfl) ?_
        refine lv_sipush (v := 255) hx hb dM_returns_57 (by decide) ?_
        refine lv_iand hx hb dM_returns_60 ?_
        refine mast_5 hx hb hC hP hS (vin_c (by decide)) dM_returns_61 (fun σ24 H locs e24 hP hS => ?_)
        have hE := hE.trans (bd_e e24)
        have hB : MB σ24 := by rw [e24]; exact hB
        refine lv_goto (tgt := 152) hx hb dM_returns_62 rfl ?_
        have hl := lv_sub hl [] rfl
        exact b152 _ _ _ _ hE hl hP hB hS
  · have hE := hE.trans (if_neg h1)
    refine lv_aload_n hx hb dM_returns_14 rfl (lv_at hl 1 rfl) ?_
    refine mget_0_8 hx hb hts inM hown hC hP (hts _ wM_f26) dM_returns_15 ?_
    refine lv_bipush (v := 7) hx hb dM_returns_18 (by decide) ?_
    refine lv_iload_n hx hb dM_returns_20 rfl (lv_at hl 0 rfl) ?_
    refine lv_sipush (v := 255) hx hb dM_returns_21 (by decide) ?_
    refine lv_iand hx hb dM_returns_24 ?_
    refine mast_5 hx hb hC hP hS (vin_c (by decide)) dM_returns_25 (fun σ25 H locs e25 hP hS => ?_)
    have hE := hE.trans (bd_e e25)
    have hB : MB σ25 := by rw [e25]; exact hB
    refine lv_goto (tgt := 152) hx hb dM_returns_26 rfl ?_
    have hl := lv_sub hl [] rfl
    exact b152 _ _ _ _ hE hl hP hB hS
set_option maxRecDepth 100000 in
set_option maxHeartbeats 4000000 in
theorem c_m_namesSeven (l : Launch) (D : va_G) (q : Nat → Nat) (cA : ClassId) (σ0 : St) (a0 : Int32) (a1 : Int32) (a2 : Int32) (a3 : Int32) : Met l yM_namesSeven wsM_namesSeven { frames := 0, cells := 0, slots := 0, locals := 0 } (va_Pc [.int a0, .int a1, .int a2, .int a3] (MPre D q cA σ0)) (va_Qi (fun r u => (u, r) = m_namesSeven σ0 a0 a1 a2 a3 ∧ zb r) (MPost D q cA) (MA q)) 0 0 (MA q) := by
  refine Met.ofW (cc := cM_namesSeven) (maxL := 6) (ret := (some .boolean)) (by decide) rfl ?_
  intro p e s m args below meth c s₁ B hml hv
  obtain ⟨rfl, hP, hB, hC⟩ := hv
  have hx := B.exec
  have hb := B.bytes
  have hr := B.returns
  have hts : ∀ w ∈ gw, w.before ([.int a0, .int a1, .int a2, .int a3] : List Value).toArray s = true := fun w h => atoms_spec (ws := wsM_namesSeven) B.pre w (List.mem_cons_of_mem _ h)
  have hown : s.vm.findClass RM = some m.cls := findClass_of_methodNamed B.named
  have hlocks := B.notSynchronized
  have hS : va_S (MA q) s.heap s.heap [] := va_S.rf
  have hl := lv_entry ([.int a0, .int a1, .int a2, .int a3]) (n := 6) (Nat.le_of_ble_eq_true rfl)
  rw [lg_entry_eq]
  generalize (lg_sl ([.int a0, .int a1, .int a2, .int a3]) ++ List.replicate (6 - (lg_sl ([.int a0, .int a1, .int a2, .int a3])).length) Slot.unset).toArray = ls at hl ⊢
  have hl : lv_has ls 6 [(0, .int a0), (1, .int a1), (2, .int a2), (3, .int a3)] := hl
  have hE : m_namesSeven σ0 a0 a1 a2 a3 = m_namesSeven σ0 a0 a1 a2 a3 := rfl
  have b91 : ∀ (H : Heap) (locs : List Loc) (ls : Array Slot) (σ : St) (y0 : Int32), zb y0 → m_namesSeven σ0 a0 a1 a2 a3 = m_namesSeven_91 σ y0 → lv_has ls 6 [] → va_P D vwCl (wsM q cA σ) H → MB σ → va_S (MA q) s.heap H locs → W p l e (headSpec wsM_namesSeven { frames := 0, cells := 0, slots := 0, locals := 0 }).room s m ([.int a0, .int a1, .int a2, .int a3] : List Value).toArray below meth c H locs 0 0 (MQ below (va_Qi (fun r u => (u, r) = m_namesSeven σ0 a0 a1 a2 a3 ∧ zb r) (MPost D q cA) (MA q)) ([.int a0, .int a1, .int a2, .int a3] : List Value).toArray s 0 0 (MA q)) (F0 m 91 ls [.int y0]) := by
    intro H locs ls σ y0 hz_y0 hE hl hP hB hS
    exact W.zret (v := y0) hx hb hr (zb_n hz_y0).1 (fun t ht hW => ⟨⟨y0, σ, rfl, ⟨hE.symm, hz_y0⟩, ⟨by rw [ht]; exact hP, hB⟩⟩, hS.F ht⟩) hS.2.2 dM_namesSeven_91
  have b86 : ∀ (H : Heap) (locs : List Loc) (ls : Array Slot) (σ : St), m_namesSeven σ0 a0 a1 a2 a3 = m_namesSeven_86 σ → lv_has ls 6 [] → va_P D vwCl (wsM q cA σ) H → MB σ → va_S (MA q) s.heap H locs → W p l e (headSpec wsM_namesSeven { frames := 0, cells := 0, slots := 0, locals := 0 }).room s m ([.int a0, .int a1, .int a2, .int a3] : List Value).toArray below meth c H locs 0 0 (MQ below (va_Qi (fun r u => (u, r) = m_namesSeven σ0 a0 a1 a2 a3 ∧ zb r) (MPost D q cA) (MA q)) ([.int a0, .int a1, .int a2, .int a3] : List Value).toArray s 0 0 (MA q)) (F0 m 86 ls []) := by
    intro H locs ls σ hE hl hP hB hS
    refine lv_iconst (v := 1) hx hb dM_namesSeven_86 (by decide) ?_
    refine lv_goto (tgt := 91) hx hb dM_namesSeven_87 rfl ?_
    exact b91 _ _ _ _ 1 (by decide) hE hl hP hB hS
  have b90 : ∀ (H : Heap) (locs : List Loc) (ls : Array Slot) (σ : St), m_namesSeven σ0 a0 a1 a2 a3 = m_namesSeven_90 σ → lv_has ls 6 [] → va_P D vwCl (wsM q cA σ) H → MB σ → va_S (MA q) s.heap H locs → W p l e (headSpec wsM_namesSeven { frames := 0, cells := 0, slots := 0, locals := 0 }).room s m ([.int a0, .int a1, .int a2, .int a3] : List Value).toArray below meth c H locs 0 0 (MQ below (va_Qi (fun r u => (u, r) = m_namesSeven σ0 a0 a1 a2 a3 ∧ zb r) (MPost D q cA) (MA q)) ([.int a0, .int a1, .int a2, .int a3] : List Value).toArray s 0 0 (MA q)) (F0 m 90 ls []) := by
    intro H locs ls σ hE hl hP hB hS
    refine lv_iconst (v := 0) hx hb dM_namesSeven_90 (by decide) ?_
    exact b91 _ _ _ _ 0 (by decide) hE hl hP hB hS
  have b80 : ∀ (H : Heap) (locs : List Loc) (ls : Array Slot) (σ : St) (x3 : Int32), m_namesSeven σ0 a0 a1 a2 a3 = m_namesSeven_80 σ x3 → lv_has ls 6 [(3, .int x3)] → va_P D vwCl (wsM q cA σ) H → MB σ → va_S (MA q) s.heap H locs → W p l e (headSpec wsM_namesSeven { frames := 0, cells := 0, slots := 0, locals := 0 }).room s m ([.int a0, .int a1, .int a2, .int a3] : List Value).toArray below meth c H locs 0 0 (MQ below (va_Qi (fun r u => (u, r) = m_namesSeven σ0 a0 a1 a2 a3 ∧ zb r) (MPost D q cA) (MA q)) ([.int a0, .int a1, .int a2, .int a3] : List Value).toArray s 0 0 (MA q)) (F0 m 80 ls []) := by
    intro H locs ls σ x3 hE hl hP hB hS
    refine lv_iload_n hx hb dM_namesSeven_80 rfl (lv_at hl 0 rfl) ?_
    refine lv_bipush (v := 7) hx hb dM_namesSeven_81 (by decide) ?_
    refine lv_icmp_ne (tgt := 90) hx hb dM_namesSeven_83 rfl (fun h8 => ?_) (fun h8 => ?_)
    · have hE := hE.trans (if_neg h8)
      have hl := lv_sub hl [] rfl
      exact b90 _ _ _ _ hE hl hP hB hS
    · have hE := hE.trans (if_pos h8)
      have hl := lv_sub hl [] rfl
      exact b86 _ _ _ _ hE hl hP hB hS
  have b58 : ∀ (H : Heap) (locs : List Loc) (ls : Array Slot) (σ : St) (x0 : Int32) (x3 : Int32) (x4 : Int32) (y0 : Int32), m_namesSeven σ0 a0 a1 a2 a3 = m_namesSeven_58 σ x0 x3 x4 y0 → lv_has ls 6 [(0, .int x0), (3, .int x3), (4, .int x4)] → va_P D vwCl (wsM q cA σ) H → MB σ → va_S (MA q) s.heap H locs → W p l e (headSpec wsM_namesSeven { frames := 0, cells := 0, slots := 0, locals := 0 }).room s m ([.int a0, .int a1, .int a2, .int a3] : List Value).toArray below meth c H locs 0 0 (MQ below (va_Qi (fun r u => (u, r) = m_namesSeven σ0 a0 a1 a2 a3 ∧ zb r) (MPost D q cA) (MA q)) ([.int a0, .int a1, .int a2, .int a3] : List Value).toArray s 0 0 (MA q)) (F0 m 58 ls [.int y0]) := by
    intro H locs ls σ x0 x3 x4 y0 hE hl hP hB hS
    refine lv_istore (lv' := [(5, .int y0), (0, .int x0), (3, .int x3), (4, .int x4)]) hx hb dM_namesSeven_58 hl (by decide) rfl (fun ls hl => ?_)
    refine lv_iload hx hb dM_namesSeven_60 (lv_at hl 3 rfl) ?_
    refine lv_if_ne (tgt := 86) hx hb dM_namesSeven_62 rfl (fun h5 => ?_) (fun h5 => ?_)
    · have hE := hE.trans (if_neg h5)
      have hl := lv_sub hl [] rfl
      exact b86 _ _ _ _ hE hl hP hB hS
    · have hE := hE.trans (if_pos h5)
      refine lv_iload hx hb dM_namesSeven_65 (lv_at hl 0 rfl) ?_
      refine lv_if_ne (tgt := 86) hx hb dM_namesSeven_67 rfl (fun h6 => ?_) (fun h6 => ?_)
      · have hE := hE.trans (if_neg h6)
        have hl := lv_sub hl [] rfl
        exact b86 _ _ _ _ hE hl hP hB hS
      · have hE := hE.trans (if_pos h6)
        refine lv_iload_n hx hb dM_namesSeven_70 rfl (lv_at hl 1 rfl) ?_
        refine lv_iconst (v := 1) hx hb dM_namesSeven_71 (by decide) ?_
        refine lv_icmp_eq (tgt := 80) hx hb dM_namesSeven_72 rfl (fun h7 => ?_) (fun h7 => ?_)
        · have hE := hE.trans (if_pos h7)
          have hl := lv_sub hl [2] rfl
          exact b80 _ _ _ _ x3 hE hl hP hB hS
        · have hE := hE.trans (if_neg h7)
          refine lv_iload_n hx hb dM_namesSeven_75 rfl (lv_at hl 1 rfl) ?_
          refine lv_iconst (v := 2) hx hb dM_namesSeven_76 (by decide) ?_
          refine lv_icmp_ne (tgt := 90) hx hb dM_namesSeven_77 rfl (fun h9 => ?_) (fun h9 => ?_)
          · have hE := hE.trans (if_neg h9)
            have hl := lv_sub hl [] rfl
            exact b90 _ _ _ _ hE hl hP hB hS
          · have hE := hE.trans (if_pos h9)
            have hl := lv_sub hl [2] rfl
            exact b80 _ _ _ _ x3 hE hl hP hB hS
  have b57 : ∀ (H : Heap) (locs : List Loc) (ls : Array Slot) (σ : St) (x0 : Int32) (x3 : Int32) (x4 : Int32), m_namesSeven σ0 a0 a1 a2 a3 = m_namesSeven_57 σ x0 x3 x4 → lv_has ls 6 [(0, .int x0), (3, .int x3), (4, .int x4)] → va_P D vwCl (wsM q cA σ) H → MB σ → va_S (MA q) s.heap H locs → W p l e (headSpec wsM_namesSeven { frames := 0, cells := 0, slots := 0, locals := 0 }).room s m ([.int a0, .int a1, .int a2, .int a3] : List Value).toArray below meth c H locs 0 0 (MQ below (va_Qi (fun r u => (u, r) = m_namesSeven σ0 a0 a1 a2 a3 ∧ zb r) (MPost D q cA) (MA q)) ([.int a0, .int a1, .int a2, .int a3] : List Value).toArray s 0 0 (MA q)) (F0 m 57 ls []) := by
    intro H locs ls σ x0 x3 x4 hE hl hP hB hS
    refine lv_iconst (v := 0) hx hb dM_namesSeven_57 (by decide) ?_
    exact b58 _ _ _ _ x0 x3 x4 0 hE hl hP hB hS
  have b47 : ∀ (H : Heap) (locs : List Loc) (ls : Array Slot) (σ : St) (x0 : Int32) (x2 : Int32) (x3 : Int32) (x4 : Int32), m_namesSeven σ0 a0 a1 a2 a3 = m_namesSeven_47 σ x0 x2 x3 x4 → lv_has ls 6 [(0, .int x0), (2, .int x2), (3, .int x3), (4, .int x4)] → va_P D vwCl (wsM q cA σ) H → MB σ → va_S (MA q) s.heap H locs → W p l e (headSpec wsM_namesSeven { frames := 0, cells := 0, slots := 0, locals := 0 }).room s m ([.int a0, .int a1, .int a2, .int a3] : List Value).toArray below meth c H locs 0 0 (MQ below (va_Qi (fun r u => (u, r) = m_namesSeven σ0 a0 a1 a2 a3 ∧ zb r) (MPost D q cA) (MA q)) ([.int a0, .int a1, .int a2, .int a3] : List Value).toArray s 0 0 (MA q)) (F0 m 47 ls []) := by
    intro H locs ls σ x0 x2 x3 x4 hE hl hP hB hS
    refine lv_iload_n hx hb dM_namesSeven_47 rfl (lv_at hl 1 rfl) ?_
    refine lv_bipush (v := 7) hx hb dM_namesSeven_48 (by decide) ?_
    refine lv_icmp_ne (tgt := 57) hx hb dM_namesSeven_50 rfl (fun h4 => ?_) (fun h4 => ?_)
    · have hE := hE.trans (if_neg h4)
      have hl := lv_sub hl [0, 2, 3] rfl
      exact b57 _ _ _ _ x0 x3 x4 hE hl hP hB hS
    · have hE := hE.trans (if_pos h4)
      refine lv_iconst (v := 1) hx hb dM_namesSeven_53 (by decide) ?_
      refine lv_goto (tgt := 58) hx hb dM_namesSeven_54 rfl ?_
      have hl := lv_sub hl [0, 2, 3] rfl
      exact b58 _ _ _ _ x0 x3 x4 1 hE hl hP hB hS
  have b29 : ∀ (H : Heap) (locs : List Loc) (ls : Array Slot) (σ : St) (x0 : Int32) (x2 : Int32) (x3 : Int32) (x4 : Int32), m_namesSeven σ0 a0 a1 a2 a3 = m_namesSeven_29 σ x0 x2 x3 x4 → lv_has ls 6 [(0, .int x0), (2, .int x2), (3, .int x3), (4, .int x4)] → va_P D vwCl (wsM q cA σ) H → MB σ → va_S (MA q) s.heap H locs → W p l e (headSpec wsM_namesSeven { frames := 0, cells := 0, slots := 0, locals := 0 }).room s m ([.int a0, .int a1, .int a2, .int a3] : List Value).toArray below meth c H locs 0 0 (MQ below (va_Qi (fun r u => (u, r) = m_namesSeven σ0 a0 a1 a2 a3 ∧ zb r) (MPost D q cA) (MA q)) ([.int a0, .int a1, .int a2, .int a3] : List Value).toArray s 0 0 (MA q)) (F0 m 29 ls []) := by
    intro H locs ls σ x0 x2 x3 x4 hE hl hP hB hS
    refine lv_iload_n hx hb dM_namesSeven_29 rfl (lv_at hl 0 rfl) ?_
    refine lv_bipush (v := 9) hx hb dM_namesSeven_30 (by decide) ?_
    refine lv_icmp_eq (tgt := 47) hx hb dM_namesSeven_32 rfl (fun h3 => ?_) (fun h3 => ?_)
    · have hE := hE.trans (if_pos h3)
      exact b47 _ _ _ _ x0 x2 x3 x4 hE hl hP hB hS
    · have hE := hE.trans (if_neg h3)
      refine lv_iload_n hx hb dM_namesSeven_35 rfl (lv_at hl 0 rfl) ?_
      refine lv_bipush (v := 11) hx hb dM_namesSeven_36 (by decide) ?_
      refine lv_icmp_eq (tgt := 47) hx hb dM_namesSeven_38 rfl (fun h10 => ?_) (fun h10 => ?_)
      · have hE := hE.trans (if_pos h10)
        exact b47 _ _ _ _ x0 x2 x3 x4 hE hl hP hB hS
      · have hE := hE.trans (if_neg h10)
        refine lv_iload_n hx hb dM_namesSeven_41 rfl (lv_at hl 0 rfl) ?_
        refine lv_bipush (v := 12) hx hb dM_namesSeven_42 (by decide) ?_
        refine lv_icmp_ne (tgt := 57) hx hb dM_namesSeven_44 rfl (fun h11 => ?_) (fun h11 => ?_)
        · have hE := hE.trans (if_neg h11)
          have hl := lv_sub hl [0, 2, 3] rfl
          exact b57 _ _ _ _ x0 x3 x4 hE hl hP hB hS
        · have hE := hE.trans (if_pos h11)
          exact b47 _ _ _ _ x0 x2 x3 x4 hE hl hP hB hS
  have b17 : ∀ (H : Heap) (locs : List Loc) (ls : Array Slot) (σ : St) (x0 : Int32) (x2 : Int32) (x3 : Int32) (y0 : Int32), m_namesSeven σ0 a0 a1 a2 a3 = m_namesSeven_17 σ x0 x2 x3 y0 → lv_has ls 6 [(0, .int x0), (2, .int x2), (3, .int x3)] → va_P D vwCl (wsM q cA σ) H → MB σ → va_S (MA q) s.heap H locs → W p l e (headSpec wsM_namesSeven { frames := 0, cells := 0, slots := 0, locals := 0 }).room s m ([.int a0, .int a1, .int a2, .int a3] : List Value).toArray below meth c H locs 0 0 (MQ below (va_Qi (fun r u => (u, r) = m_namesSeven σ0 a0 a1 a2 a3 ∧ zb r) (MPost D q cA) (MA q)) ([.int a0, .int a1, .int a2, .int a3] : List Value).toArray s 0 0 (MA q)) (F0 m 17 ls [.int y0]) := by
    intro H locs ls σ x0 x2 x3 y0 hE hl hP hB hS
    refine lv_istore (lv' := [(4, .int y0), (0, .int x0), (2, .int x2), (3, .int x3)]) hx hb dM_namesSeven_17 hl (by decide) rfl (fun ls hl => ?_)
    refine lv_iload_n hx hb dM_namesSeven_19 rfl (lv_at hl 1 rfl) ?_
    refine lv_iconst (v := 1) hx hb dM_namesSeven_20 (by decide) ?_
    refine lv_icmp_lt (tgt := 29) hx hb dM_namesSeven_21 rfl (fun h2 => ?_) (fun h2 => ?_)
    · have hE := hE.trans (if_pos h2)
      have hl := lv_sub hl [1, 2, 3, 0] rfl
      exact b29 _ _ _ _ x0 x2 x3 y0 hE hl hP hB hS
    · have hE := hE.trans (if_neg h2)
      refine lv_iload_n hx hb dM_namesSeven_24 rfl (lv_at hl 1 rfl) ?_
      refine lv_iconst (v := 4) hx hb dM_namesSeven_25 (by decide) ?_
      refine lv_icmp_le (tgt := 47) hx hb dM_namesSeven_26 rfl (fun h12 => ?_) (fun h12 => ?_)
      · have hE := hE.trans (if_pos h12)
        have hl := lv_sub hl [1, 2, 3, 0] rfl
        exact b47 _ _ _ _ x0 x2 x3 y0 hE hl hP hB hS
      · have hE := hE.trans (if_neg h12)
        have hl := lv_sub hl [1, 2, 3, 0] rfl
        exact b29 _ _ _ _ x0 x2 x3 y0 hE hl hP hB hS
  have b16 : ∀ (H : Heap) (locs : List Loc) (ls : Array Slot) (σ : St) (x0 : Int32) (x2 : Int32) (x3 : Int32), m_namesSeven σ0 a0 a1 a2 a3 = m_namesSeven_16 σ x0 x2 x3 → lv_has ls 6 [(0, .int x0), (2, .int x2), (3, .int x3)] → va_P D vwCl (wsM q cA σ) H → MB σ → va_S (MA q) s.heap H locs → W p l e (headSpec wsM_namesSeven { frames := 0, cells := 0, slots := 0, locals := 0 }).room s m ([.int a0, .int a1, .int a2, .int a3] : List Value).toArray below meth c H locs 0 0 (MQ below (va_Qi (fun r u => (u, r) = m_namesSeven σ0 a0 a1 a2 a3 ∧ zb r) (MPost D q cA) (MA q)) ([.int a0, .int a1, .int a2, .int a3] : List Value).toArray s 0 0 (MA q)) (F0 m 16 ls []) := by
    intro H locs ls σ x0 x2 x3 hE hl hP hB hS
    refine lv_iconst (v := 0) hx hb dM_namesSeven_16 (by decide) ?_
    exact b17 _ _ _ _ x0 x2 x3 0 hE hl hP hB hS
  refine lv_iload_n hx hb dM_namesSeven_0 rfl (lv_at hl 0 rfl) ?_
  refine lv_bipush (v := 6) hx hb dM_namesSeven_1 (by decide) ?_
  refine lv_icmp_gt (tgt := 16) hx hb dM_namesSeven_3 rfl (fun h1 => ?_) (fun h1 => ?_)
  · have hE := hE.trans (if_pos h1)
    have hl := lv_sub hl [0, 2, 3] rfl
    exact b16 _ _ _ _ a0 a2 a3 hE hl hP hB hS
  · have hE := hE.trans (if_neg h1)
    refine lv_iload_n hx hb dM_namesSeven_6 rfl (lv_at hl 1 rfl) ?_
    refine lv_bipush (v := 7) hx hb dM_namesSeven_7 (by decide) ?_
    refine lv_icmp_ne (tgt := 16) hx hb dM_namesSeven_9 rfl (fun h13 => ?_) (fun h13 => ?_)
    · have hE := hE.trans (if_neg h13)
      have hl := lv_sub hl [0, 2, 3] rfl
      exact b16 _ _ _ _ a0 a2 a3 hE hl hP hB hS
    · have hE := hE.trans (if_pos h13)
      refine lv_iconst (v := 1) hx hb dM_namesSeven_12 (by decide) ?_
      refine lv_goto (tgt := 17) hx hb dM_namesSeven_13 rfl ?_
      have hl := lv_sub hl [0, 2, 3] rfl
      exact b17 _ _ _ _ a0 a2 a3 1 hE hl hP hB hS
set_option maxRecDepth 100000 in
set_option maxHeartbeats 4000000 in
theorem c_m_outwards (l : Launch) (D : va_G) (q : Nat → Nat) (cA : ClassId) (σ0 : St) (a1 : Int32) (a2 : Int32) (a3 : Int32) (hin12_a1 : vp_in a1 12) (hz_a3 : zb a3) : Met l yM_outwards wsM_outwards { frames := 4, cells := 0, slots := 0, locals := 90 } (va_Pc [.ref (q 0), .int a1, .int a2, .int a3] (MPre D q cA σ0)) (va_Qv (fun u => u = m_outwards σ0 a1 a2 a3) (MPost D q cA) (MA q)) 0 0 (MA q) := by
  refine Met.ofW (cc := cM_outwards) (maxL := 5) (ret := none) (by decide) rfl ?_
  intro p e s m args below meth c s₁ B hml hv
  obtain ⟨rfl, hP, hB, hC⟩ := hv
  have hx := B.exec
  have hb := B.bytes
  have hr := B.returns
  have hts : ∀ w ∈ gw, w.before ([.ref (q 0), .int a1, .int a2, .int a3] : List Value).toArray s = true := fun w h => atoms_spec (ws := wsM_outwards) B.pre w (List.mem_cons_of_mem _ h)
  have hown : s.vm.findClass RM = some m.cls := findClass_of_methodNamed B.named
  have hlocks := B.notSynchronized
  have hS : va_S (MA q) s.heap s.heap [] := va_S.rf
  have hl := lv_entry ([.ref (q 0), .int a1, .int a2, .int a3]) (n := 5) (Nat.le_of_ble_eq_true rfl)
  rw [lg_entry_eq]
  generalize (lg_sl ([.ref (q 0), .int a1, .int a2, .int a3]) ++ List.replicate (5 - (lg_sl ([.ref (q 0), .int a1, .int a2, .int a3])).length) Slot.unset).toArray = ls at hl ⊢
  have hl : lv_has ls 5 [(0, .ref (q 0)), (1, .int a1), (2, .int a2), (3, .int a3)] := hl
  have hE : m_outwards σ0 a1 a2 a3 = m_outwards σ0 a1 a2 a3 := rfl
  have b37 : ∀ (H : Heap) (locs : List Loc) (ls : Array Slot) (σ : St) (x4 : Int32), m_outwards σ0 a1 a2 a3 = m_outwards_37 σ x4 → lv_has ls 5 [(0, .ref (q 0)), (4, .int x4)] → va_P D vwCl (wsM q cA σ) H → MB σ → va_S (MA q) s.heap H locs → W p l e (headSpec wsM_outwards { frames := 4, cells := 0, slots := 0, locals := 90 }).room s m ([.ref (q 0), .int a1, .int a2, .int a3] : List Value).toArray below meth c H locs 0 0 (MQ below (va_Qv (fun u => u = m_outwards σ0 a1 a2 a3) (MPost D q cA) (MA q)) ([.ref (q 0), .int a1, .int a2, .int a3] : List Value).toArray s 0 0 (MA q)) (F0 m 37 ls []) := by
    intro H locs ls σ x4 hE hl hP hB hS
    refine lv_aload_n hx hb dM_outwards_37 rfl (lv_at hl 0 rfl) ?_
    refine mget_0_8 hx hb hts inM hown hC hP (hts _ wM_f26) dM_outwards_38 ?_
    refine lv_bipush (v := 11) hx hb dM_outwards_41 (by decide) ?_
    refine lv_iconst (v := 1) hx hb dM_outwards_43 (by decide) ?_
    refine mast_5 hx hb hC hP hS (vin_c (by decide)) dM_outwards_44 (fun σ2 H locs e2 hP hS => ?_)
    have hE := hE.trans (bd_e e2)
    have hB : MB σ2 := by rw [e2]; exact hB
    refine lv_aload_n hx hb dM_outwards_45 rfl (lv_at hl 0 rfl) ?_
    refine mget_0_8 hx hb hts inM hown hC hP (hts _ wM_f26) dM_outwards_46 ?_
    refine lv_bipush (v := 7) hx hb dM_outwards_49 (by decide) ?_
    refine lv_iload hx hb dM_outwards_51 (lv_at hl 1 rfl) ?_
    refine mast_5 hx hb hC hP hS (vin_c (by decide)) dM_outwards_53 (fun σ3 H locs e3 hP hS => ?_)
    have hE := hE.trans (bd_e e3)
    have hB : MB σ3 := by rw [e3]; exact hB
    exact W.vret hx hb hr (fun t ht hW => ⟨⟨σ3, rfl, hE.symm, ⟨by rw [ht]; exact hP, hB⟩⟩, hS.F ht⟩) hS.2.2 dM_outwards_54
  refine lv_aload_n hx hb dM_outwards_0 rfl (lv_at hl 0 rfl) ?_
  refine mget_0_8 hx hb hts inM hown hC hP (hts _ wM_f26) dM_outwards_1 ?_
  refine lv_iload_n hx hb dM_outwards_4 rfl (lv_at hl 1 rfl) ?_
  refine mald_5 hx hb hC hP hin12_a1 dM_outwards_5 ?_
  refine lv_sipush (v := 255) hx hb dM_outwards_6 (by decide) ?_
  refine lv_iand hx hb dM_outwards_9 ?_
  refine lv_istore (lv' := [(4, .int ((σ0 5 (ix a1)) &&& 255)), (0, .ref (q 0)), (1, .int a1), (2, .int a2), (3, .int a3)]) hx hb dM_outwards_10 hl (by decide) rfl (fun ls hl => ?_)
  refine lv_iload_n hx hb dM_outwards_12 rfl (lv_at hl 4 rfl) ?_
  refine lv_if_eq (tgt := 37) hx hb dM_outwards_13 rfl (fun h1 => ?_) (fun h1 => ?_)
  · have hE := hE.trans (if_pos h1)
    have hl := lv_sub hl [1, 0] rfl
    exact b37 _ _ _ _ ((σ0 5 (ix a1)) &&& 255) hE hl hP hB hS
  · have hE := hE.trans (if_neg h1)
    refine lv_aload_n hx hb dM_outwards_16 rfl (lv_at hl 1 rfl) ?_
    refine lv_iload_n hx hb dM_outwards_17 rfl (lv_at hl 3 rfl) ?_
    refine mcallv (rest := []) ⟨hx, hb, hml, hown, hts⟩ hC hP hB hS (c_m_push l D q cA σ0 a2) (cwV 1 hts gM_90 rfl rfl rfl hdM_push ⟨Nat.le_of_ble_eq_true rfl, Nat.le_of_ble_eq_true rfl⟩) (mrv_0 hC hP) rfl hl.1 rfl (Nat.le_of_ble_eq_true rfl) dM_outwards_18 (fun σ4 H locs e4 hP hB hS => ?_)
    have hE := hE.trans (bd_e e4)
    refine lv_aload_n hx hb dM_outwards_21 rfl (lv_at hl 1 rfl) ?_
    refine lv_sipush (v := 4096) hx hb dM_outwards_22 (by decide) ?_
    refine mcallv (rest := []) ⟨hx, hb, hml, hown, hts⟩ hC hP hB hS (c_m_push l D q cA σ4 4096) (cwV 1 hts gM_90 rfl rfl rfl hdM_push ⟨Nat.le_of_ble_eq_true rfl, Nat.le_of_ble_eq_true rfl⟩) (mrv_0 hC hP) rfl hl.1 rfl (Nat.le_of_ble_eq_true rfl) dM_outwards_25 (fun σ5 H locs e5 hP hB hS => ?_)
    have hE := hE.trans (bd_e e5)
    refine lv_aload_n hx hb dM_outwards_28 rfl (lv_at hl 1 rfl) ?_
    refine mget_0_8 hx hb hts inM hown hC hP (hts _ wM_f26) dM_outwards_29 ?_
    refine lv_bipush (v := 6) hx hb dM_outwards_32 (by decide) ?_
    refine lv_ldc (v := 65520) hx hb hown (hts _ wM_c110) dM_outwards_34 ?_
    refine mast_5 hx hb hC hP hS (vin_c (by decide)) dM_outwards_36 (fun σ6 H locs e6 hP hS => ?_)
    have hE := hE.trans (bd_e e6)
    have hB : MB σ6 := by rw [e6]; exact hB
    have hl := lv_sub hl [1, 0] rfl
    exact b37 _ _ _ _ ((σ0 5 (ix a1)) &&& 255) hE hl hP hB hS
set_option maxRecDepth 100000 in
set_option maxHeartbeats 4000000 in
theorem c_m_call (l : Launch) (D : va_G) (q : Nat → Nat) (cA : ClassId) (σ0 : St) (a1 : Int32) (a2 : Int32) (hin12_a1 : vp_in a1 12) : Met l yM_call wsM_call { frames := 0, cells := 0, slots := 0, locals := 0 } (va_Pc [.ref (q 0), .int a1, .int a2] (MPre D q cA σ0)) (va_Qv (fun u => u = m_call σ0 a1 a2) (MPost D q cA) (MA q)) 0 0 (MA q) := by
  refine Met.ofW (cc := cM_call) (maxL := 4) (ret := none) (by decide) rfl ?_
  intro p e s m args below meth c s₁ B hml hv
  obtain ⟨rfl, hP, hB, hC⟩ := hv
  have hx := B.exec
  have hb := B.bytes
  have hr := B.returns
  have hts : ∀ w ∈ gw, w.before ([.ref (q 0), .int a1, .int a2] : List Value).toArray s = true := fun w h => atoms_spec (ws := wsM_call) B.pre w (List.mem_cons_of_mem _ h)
  have hown : s.vm.findClass RM = some m.cls := findClass_of_methodNamed B.named
  have hlocks := B.notSynchronized
  have hS : va_S (MA q) s.heap s.heap [] := va_S.rf
  have hl := lv_entry ([.ref (q 0), .int a1, .int a2]) (n := 4) (Nat.le_of_ble_eq_true rfl)
  rw [lg_entry_eq]
  generalize (lg_sl ([.ref (q 0), .int a1, .int a2]) ++ List.replicate (4 - (lg_sl ([.ref (q 0), .int a1, .int a2])).length) Slot.unset).toArray = ls at hl ⊢
  have hl : lv_has ls 4 [(0, .ref (q 0)), (1, .int a1), (2, .int a2)] := hl
  have hE : m_call σ0 a1 a2 = m_call σ0 a1 a2 := rfl
  refine lv_aload_n hx hb dM_call_0 rfl (lv_at hl 0 rfl) ?_
  refine mget_0_8 hx hb hts inM hown hC hP (hts _ wM_f26) dM_call_1 ?_
  refine lv_iload_n hx hb dM_call_4 rfl (lv_at hl 1 rfl) ?_
  refine mald_5 hx hb hC hP hin12_a1 dM_call_5 ?_
  refine lv_sipush (v := 255) hx hb dM_call_6 (by decide) ?_
  refine lv_iand hx hb dM_call_9 ?_
  refine lv_istore_n (lv' := [(3, .int ((σ0 5 (ix a1)) &&& 255)), (0, .ref (q 0)), (1, .int a1), (2, .int a2)]) hx hb dM_call_10 rfl hl (by decide) rfl (fun ls hl => ?_)
  refine lv_aload_n hx hb dM_call_11 rfl (lv_at hl 1 rfl) ?_
  refine mget_0_8 hx hb hts inM hown hC hP (hts _ wM_f26) dM_call_12 ?_
  refine lv_bipush (v := 6) hx hb dM_call_15 (by decide) ?_
  refine lv_iload_n hx hb dM_call_17 rfl (lv_at hl 3 rfl) ?_
  refine mast_5 hx hb hC hP hS (vin_c (by decide)) dM_call_18 (fun σ1 H locs e1 hP hS => ?_)
  have hE := hE.trans (bd_e e1)
  have hB : MB σ1 := by rw [e1]; exact hB
  refine lv_aload_n hx hb dM_call_19 rfl (lv_at hl 1 rfl) ?_
  refine mget_0_8 hx hb hts inM hown hC hP (hts _ wM_f26) dM_call_20 ?_
  refine lv_bipush (v := 7) hx hb dM_call_23 (by decide) ?_
  refine lv_iload_n hx hb dM_call_25 rfl (lv_at hl 0 rfl) ?_
  refine mast_5 hx hb hC hP hS (vin_c (by decide)) dM_call_26 (fun σ2 H locs e2 hP hS => ?_)
  have hE := hE.trans (bd_e e2)
  have hB : MB σ2 := by rw [e2]; exact hB
  exact W.vret hx hb hr (fun t ht hW => ⟨⟨σ2, rfl, hE.symm, ⟨by rw [ht]; exact hP, hB⟩⟩, hS.F ht⟩) hS.2.2 dM_call_27
set_option maxRecDepth 100000 in
set_option maxHeartbeats 4000000 in
theorem c_m_perform (l : Launch) (D : va_G) (q : Nat → Nat) (cA : ClassId) (σ0 : St) (a1 : Int32) : Met l yM_perform wsM_perform { frames := 6, cells := 0, slots := 0, locals := 135 } (va_Pc [.ref (q 0), .int a1] (MPre D q cA σ0)) (va_Qv (fun u => u = m_perform σ0 a1) (MPost D q cA) (MA q)) 0 0 (MA q) := by
  refine Met.ofW (cc := cM_perform) (maxL := 8) (ret := none) (by decide) rfl ?_
  intro p e s m args below meth c s₁ B hml hv
  obtain ⟨rfl, hP, hB, hC⟩ := hv
  have hx := B.exec
  have hb := B.bytes
  have hr := B.returns
  have hts : ∀ w ∈ gw, w.before ([.ref (q 0), .int a1] : List Value).toArray s = true := fun w h => atoms_spec (ws := wsM_perform) B.pre w (List.mem_cons_of_mem _ h)
  have hown : s.vm.findClass RM = some m.cls := findClass_of_methodNamed B.named
  have hlocks := B.notSynchronized
  have hS : va_S (MA q) s.heap s.heap [] := va_S.rf
  have hl := lv_entry ([.ref (q 0), .int a1]) (n := 8) (Nat.le_of_ble_eq_true rfl)
  rw [lg_entry_eq]
  generalize (lg_sl ([.ref (q 0), .int a1]) ++ List.replicate (8 - (lg_sl ([.ref (q 0), .int a1])).length) Slot.unset).toArray = ls at hl ⊢
  have hl : lv_has ls 8 [(0, .ref (q 0)), (1, .int a1)] := hl
  have hE : m_perform σ0 a1 = m_perform σ0 a1 := rfl
  have b94 : ∀ (H : Heap) (locs : List Loc) (ls : Array Slot) (σ : St), m_perform σ0 a1 = m_perform_94 σ → lv_has ls 8 [(0, .ref (q 0))] → va_P D vwCl (wsM q cA σ) H → MB σ → va_S (MA q) s.heap H locs → W p l e (headSpec wsM_perform { frames := 6, cells := 0, slots := 0, locals := 135 }).room s m ([.ref (q 0), .int a1] : List Value).toArray below meth c H locs 0 0 (MQ below (va_Qv (fun u => u = m_perform σ0 a1) (MPost D q cA) (MA q)) ([.ref (q 0), .int a1] : List Value).toArray s 0 0 (MA q)) (F0 m 94 ls []) := by
    intro H locs ls σ hE hl hP hB hS
    refine lv_aload_n hx hb dM_perform_94 rfl (lv_at hl 0 rfl) ?_
    refine lv_iconst (v := 1) hx hb dM_perform_95 (by decide) ?_
    refine mcallv (rest := []) ⟨hx, hb, hml, hown, hts⟩ hC hP hB hS (c_m_speak l D q cA σ 1) (cwV 1 hts gM_72 rfl rfl rfl hdM_speak ⟨Nat.le_of_ble_eq_true rfl, Nat.le_of_ble_eq_true rfl⟩) (mrv_0 hC hP) rfl hl.1 rfl (Nat.le_of_ble_eq_true rfl) dM_perform_96 (fun σ5 H locs e5 hP hB hS => ?_)
    have hE := hE.trans (bd_e e5)
    exact W.vret hx hb hr (fun t ht hW => ⟨⟨σ5, rfl, hE.symm, ⟨by rw [ht]; exact hP, hB⟩⟩, hS.F ht⟩) hS.2.2 dM_perform_99
  have b465 : ∀ (H : Heap) (locs : List Loc) (ls : Array Slot) (σ : St), m_perform σ0 a1 = m_perform_465 σ → lv_has ls 8 [] → va_P D vwCl (wsM q cA σ) H → MB σ → va_S (MA q) s.heap H locs → W p l e (headSpec wsM_perform { frames := 6, cells := 0, slots := 0, locals := 135 }).room s m ([.ref (q 0), .int a1] : List Value).toArray below meth c H locs 0 0 (MQ below (va_Qv (fun u => u = m_perform σ0 a1) (MPost D q cA) (MA q)) ([.ref (q 0), .int a1] : List Value).toArray s 0 0 (MA q)) (F0 m 465 ls []) := by
    intro H locs ls σ hE hl hP hB hS
    exact W.vret hx hb hr (fun t ht hW => ⟨⟨σ, rfl, hE.symm, ⟨by rw [ht]; exact hP, hB⟩⟩, hS.F ht⟩) hS.2.2 dM_perform_465
  have b269_10 : ∀ (H : Heap) (locs : List Loc) (ls : Array Slot) (σ : St) (y0 : Int32), m_perform σ0 a1 = m_perform_269_10 σ y0 → lv_has ls 8 [] → va_P D vwCl (wsM q cA σ) H → MB σ → va_S (MA q) s.heap H locs → W p l e (headSpec wsM_perform { frames := 6, cells := 0, slots := 0, locals := 135 }).room s m ([.ref (q 0), .int a1] : List Value).toArray below meth c H locs 0 0 (MQ below (va_Qv (fun u => u = m_perform σ0 a1) (MPost D q cA) (MA q)) ([.ref (q 0), .int a1] : List Value).toArray s 0 0 (MA q)) (F0 m 269 ls [.int y0, .int 10, .ref (q 5)]) := by
    intro H locs ls σ y0 hE hl hP hB hS
    refine mast_5 hx hb hC hP hS (vin_c (by decide)) dM_perform_269 (fun σ15 H locs e15 hP hS => ?_)
    have hE := hE.trans (bd_e e15)
    have hB : MB σ15 := by rw [e15]; exact hB
    refine lv_goto (tgt := 465) hx hb dM_perform_270 rfl ?_
    exact b465 _ _ _ _ hE hl hP hB hS
  have b391_7 : ∀ (H : Heap) (locs : List Loc) (ls : Array Slot) (σ : St) (y0 : Int32), m_perform σ0 a1 = m_perform_391_7 σ y0 → lv_has ls 8 [] → va_P D vwCl (wsM q cA σ) H → MB σ → va_S (MA q) s.heap H locs → W p l e (headSpec wsM_perform { frames := 6, cells := 0, slots := 0, locals := 135 }).room s m ([.ref (q 0), .int a1] : List Value).toArray below meth c H locs 0 0 (MQ below (va_Qv (fun u => u = m_perform σ0 a1) (MPost D q cA) (MA q)) ([.ref (q 0), .int a1] : List Value).toArray s 0 0 (MA q)) (F0 m 391 ls [.int y0, .int 7, .ref (q 5)]) := by
    intro H locs ls σ y0 hE hl hP hB hS
    refine mast_5 hx hb hC hP hS (vin_c (by decide)) dM_perform_391 (fun σ32 H locs e32 hP hS => ?_)
    have hE := hE.trans (bd_e e32)
    have hB : MB σ32 := by rw [e32]; exact hB
    refine lv_goto (tgt := 465) hx hb dM_perform_392 rfl ?_
    exact b465 _ _ _ _ hE hl hP hB hS
  have b100 : ∀ (H : Heap) (locs : List Loc) (ls : Array Slot) (σ : St) (x1 : Int32) (x2 : Int32) (x3 : Int32) (x4 : Int32) (x5 : Int32) (x6 : Int32), vp_in x3 12 → vp_in x4 12 → vp_in x5 12 → m_perform σ0 a1 = m_perform_100 σ x1 x2 x3 x4 x5 x6 → lv_has ls 8 [(0, .ref (q 0)), (1, .int x1), (2, .int x2), (3, .int x3), (4, .int x4), (5, .int x5), (6, .int x6)] → va_P D vwCl (wsM q cA σ) H → MB σ → va_S (MA q) s.heap H locs → W p l e (headSpec wsM_perform { frames := 6, cells := 0, slots := 0, locals := 135 }).room s m ([.ref (q 0), .int a1] : List Value).toArray below meth c H locs 0 0 (MQ below (va_Qv (fun u => u = m_perform σ0 a1) (MPost D q cA) (MA q)) ([.ref (q 0), .int a1] : List Value).toArray s 0 0 (MA q)) (F0 m 100 ls []) := by
    intro H locs ls σ x1 x2 x3 x4 x5 x6 hin12_x3 hin12_x4 hin12_x5 hE hl hP hB hS
    refine lv_aload_n hx hb dM_perform_100 rfl (lv_at hl 0 rfl) ?_
    refine mget_0_8 hx hb hts inM hown hC hP (hts _ wM_f26) dM_perform_101 ?_
    refine lv_bipush (v := 7) hx hb dM_perform_104 (by decide) ?_
    refine lv_iload hx hb dM_perform_106 (lv_at hl 6 rfl) ?_
    refine mast_5 hx hb hC hP hS (vin_c (by decide)) dM_perform_108 (fun σ7 H locs e7 hP hS => ?_)
    have hE := hE.trans (bd_e e7)
    have hB : MB σ7 := by rw [e7]; exact hB
    refine lv_iload_n hx hb dM_perform_109 rfl (lv_at hl 2 rfl) ?_
    rcases Classical.em (x2 = 0) with h8 | h8
    · have hE := hE.trans (if_pos h8)
      refine lv_tableIn (tgt := 184) hx hb dM_perform_110 (by rw [h8]; decide) (by rw [h8]; decide) (by rw [h8]; rfl) rfl ?_
      refine lv_aload_n hx hb dM_perform_184 rfl (lv_at hl 0 rfl) ?_
      refine mget_0_8 hx hb hts inM hown hC hP (hts _ wM_f26) dM_perform_185 ?_
      refine lv_iload_n hx hb dM_perform_188 rfl (lv_at hl 3 rfl) ?_
      refine lv_iload_n hx hb dM_perform_189 rfl (lv_at hl 1 rfl) ?_
      refine lv_sipush (v := 511) hx hb dM_perform_190 (by decide) ?_
      refine lv_iand hx hb dM_perform_193 ?_
      refine mast_5 hx hb hC hP hS hin12_x3 dM_perform_194 (fun σ9 H locs e9 hP hS => ?_)
      have hE := hE.trans (bd_e e9)
      have hB : MB σ9 := by rw [e9]; exact hB
      refine lv_goto (tgt := 465) hx hb dM_perform_195 rfl ?_
      have hl := lv_sub hl [] rfl
      exact b465 _ _ _ _ hE hl hP hB hS
    have hE := hE.trans (if_neg h8)
    rcases Classical.em (x2 = 1) with h10 | h10
    · have hE := hE.trans (if_pos h10)
      refine lv_tableIn (tgt := 198) hx hb dM_perform_110 (by rw [h10]; decide) (by rw [h10]; decide) (by rw [h10]; rfl) rfl ?_
      refine lv_aload_n hx hb dM_perform_198 rfl (lv_at hl 0 rfl) ?_
      refine mget_0_8 hx hb hts inM hown hC hP (hts _ wM_f26) dM_perform_199 ?_
      refine lv_iload_n hx hb dM_perform_202 rfl (lv_at hl 3 rfl) ?_
      refine lv_aload_n hx hb dM_perform_203 rfl (lv_at hl 0 rfl) ?_
      refine mget_0_8 hx hb hts inM hown hC hP (hts _ wM_f26) dM_perform_204 ?_
      refine lv_iload hx hb dM_perform_207 (lv_at hl 4 rfl) ?_
      refine mald_5 hx hb hC hP hin12_x4 dM_perform_209 ?_
      refine lv_aload_n hx hb dM_perform_210 rfl (lv_at hl 0 rfl) ?_
      refine mget_0_8 hx hb hts inM hown hC hP (hts _ wM_f26) dM_perform_211 ?_
      refine lv_iload hx hb dM_perform_214 (lv_at hl 5 rfl) ?_
      refine mald_5 hx hb hC hP hin12_x5 dM_perform_216 ?_
      refine lv_iadd hx hb dM_perform_217 ?_
      refine lv_ldc (v := 65535) hx hb hown (hts _ wM_c32) dM_perform_218 ?_
      refine lv_iand hx hb dM_perform_220 ?_
      refine mast_5 hx hb hC hP hS hin12_x3 dM_perform_221 (fun σ11 H locs e11 hP hS => ?_)
      have hE := hE.trans (bd_e e11)
      have hB : MB σ11 := by rw [e11]; exact hB
      refine lv_goto (tgt := 465) hx hb dM_perform_222 rfl ?_
      have hl := lv_sub hl [] rfl
      exact b465 _ _ _ _ hE hl hP hB hS
    have hE := hE.trans (if_neg h10)
    rcases Classical.em (x2 = 2) with h12 | h12
    · have hE := hE.trans (if_pos h12)
      refine lv_tableIn (tgt := 225) hx hb dM_perform_110 (by rw [h12]; decide) (by rw [h12]; decide) (by rw [h12]; rfl) rfl ?_
      refine lv_aload_n hx hb dM_perform_225 rfl (lv_at hl 0 rfl) ?_
      refine mget_0_8 hx hb hts inM hown hC hP (hts _ wM_f26) dM_perform_226 ?_
      refine lv_iload_n hx hb dM_perform_229 rfl (lv_at hl 3 rfl) ?_
      refine lv_aload_n hx hb dM_perform_230 rfl (lv_at hl 0 rfl) ?_
      refine mget_0_8 hx hb hts inM hown hC hP (hts _ wM_f26) dM_perform_231 ?_
      refine lv_iload hx hb dM_perform_234 (lv_at hl 4 rfl) ?_
      refine mald_5 hx hb hC hP hin12_x4 dM_perform_236 ?_
      refine lv_aload_n hx hb dM_perform_237 rfl (lv_at hl 0 rfl) ?_
      refine mget_0_8 hx hb hts inM hown hC hP (hts _ wM_f26) dM_perform_238 ?_
      refine lv_iload hx hb dM_perform_241 (lv_at hl 5 rfl) ?_
      refine mald_5 hx hb hC hP hin12_x5 dM_perform_243 ?_
      refine lv_isub hx hb dM_perform_244 ?_
      refine lv_ldc (v := 65535) hx hb hown (hts _ wM_c32) dM_perform_245 ?_
      refine lv_iand hx hb dM_perform_247 ?_
      refine mast_5 hx hb hC hP hS hin12_x3 dM_perform_248 (fun σ13 H locs e13 hP hS => ?_)
      have hE := hE.trans (bd_e e13)
      have hB : MB σ13 := by rw [e13]; exact hB
      refine lv_aload_n hx hb dM_perform_249 rfl (lv_at hl 0 rfl) ?_
      refine mget_0_8 hx hb hts inM hown hC hP (hts _ wM_f26) dM_perform_250 ?_
      refine lv_bipush (v := 10) hx hb dM_perform_253 (by decide) ?_
      refine lv_aload_n hx hb dM_perform_255 rfl (lv_at hl 0 rfl) ?_
      refine mget_0_8 hx hb hts inM hown hC hP (hts _ wM_f26) dM_perform_256 ?_
      refine lv_iload_n hx hb dM_perform_259 rfl (lv_at hl 3 rfl) ?_
      refine mald_5 hx hb hC hP hin12_x3 dM_perform_260 ?_
      refine lv_if_ne (tgt := 268) hx hb dM_perform_261 rfl (fun h14 => ?_) (fun h14 => ?_)
      · have hE := hE.trans (if_neg h14)
        refine lv_iconst (v := 0) hx hb dM_perform_268 (by decide) ?_
        have hl := lv_sub hl [] rfl
        exact b269_10 _ _ _ _ 0 hE hl hP hB hS
      · have hE := hE.trans (if_pos h14)
        refine lv_iconst (v := 1) hx hb dM_perform_264 (by decide) ?_
        refine lv_goto (tgt := 269) hx hb dM_perform_265 rfl ?_
        have hl := lv_sub hl [] rfl
        exact b269_10 _ _ _ _ 1 hE hl hP hB hS
    have hE := hE.trans (if_neg h12)
    rcases Classical.em (x2 = 3) with h16 | h16
    · have hE := hE.trans (if_pos h16)
      refine lv_tableIn (tgt := 273) hx hb dM_perform_110 (by rw [h16]; decide) (by rw [h16]; decide) (by rw [h16]; rfl) rfl ?_
      refine lv_aload_n hx hb dM_perform_273 rfl (lv_at hl 0 rfl) ?_
      refine mget_0_8 hx hb hts inM hown hC hP (hts _ wM_f26) dM_perform_274 ?_
      refine lv_iload_n hx hb dM_perform_277 rfl (lv_at hl 3 rfl) ?_
      refine lv_aload_n hx hb dM_perform_278 rfl (lv_at hl 0 rfl) ?_
      refine lv_aload_n hx hb dM_perform_279 rfl (lv_at hl 0 rfl) ?_
      refine mget_0_8 hx hb hts inM hown hC hP (hts _ wM_f26) dM_perform_280 ?_
      refine lv_iload hx hb dM_perform_283 (lv_at hl 4 rfl) ?_
      refine mald_5 hx hb hC hP hin12_x4 dM_perform_285 ?_
      refine lv_iload_n hx hb dM_perform_286 rfl (lv_at hl 1 rfl) ?_
      refine lv_bipush (v := 63) hx hb dM_perform_287 (by decide) ?_
      refine lv_iand hx hb dM_perform_289 ?_
      refine lv_iadd hx hb dM_perform_290 ?_
      refine mcalli (rest := [.int x3, .ref (q 5)]) ⟨hx, hb, hml, hown, hts⟩ hC hP hB hS (c_m_read l D q cA σ7 ((σ7 5 (ix x4)) + (x1 &&& 63))) (cwV 1 hts gM_84 rfl rfl rfl hdM_read ⟨Nat.le_of_ble_eq_true rfl, Nat.le_of_ble_eq_true rfl⟩) (mrv_0 hC hP) rfl hl.1 rfl (Nat.le_of_ble_eq_true rfl) dM_perform_291 (fun σ17 v18 H locs e17 hP hB hS => ?_)
      have hE := hE.trans (bd2_e e17)
      refine mast_5 hx hb hC hP hS hin12_x3 dM_perform_294 (fun σ19 H locs e19 hP hS => ?_)
      have hE := hE.trans (bd_e e19)
      have hB : MB σ19 := by rw [e19]; exact hB
      refine lv_goto (tgt := 465) hx hb dM_perform_295 rfl ?_
      have hl := lv_sub hl [] rfl
      exact b465 _ _ _ _ hE hl hP hB hS
    have hE := hE.trans (if_neg h16)
    rcases Classical.em (x2 = 4) with h20 | h20
    · have hE := hE.trans (if_pos h20)
      refine lv_tableIn (tgt := 298) hx hb dM_perform_110 (by rw [h20]; decide) (by rw [h20]; decide) (by rw [h20]; rfl) rfl ?_
      refine lv_aload_n hx hb dM_perform_298 rfl (lv_at hl 0 rfl) ?_
      refine lv_aload_n hx hb dM_perform_299 rfl (lv_at hl 0 rfl) ?_
      refine mget_0_8 hx hb hts inM hown hC hP (hts _ wM_f26) dM_perform_300 ?_
      refine lv_iload hx hb dM_perform_303 (lv_at hl 4 rfl) ?_
      refine mald_5 hx hb hC hP hin12_x4 dM_perform_305 ?_
      refine lv_iload_n hx hb dM_perform_306 rfl (lv_at hl 1 rfl) ?_
      refine lv_bipush (v := 63) hx hb dM_perform_307 (by decide) ?_
      refine lv_iand hx hb dM_perform_309 ?_
      refine lv_iadd hx hb dM_perform_310 ?_
      refine lv_aload_n hx hb dM_perform_311 rfl (lv_at hl 0 rfl) ?_
      refine mget_0_8 hx hb hts inM hown hC hP (hts _ wM_f26) dM_perform_312 ?_
      refine lv_iload_n hx hb dM_perform_315 rfl (lv_at hl 3 rfl) ?_
      refine mald_5 hx hb hC hP hin12_x3 dM_perform_316 ?_
      refine mcallv (rest := []) ⟨hx, hb, hml, hown, hts⟩ hC hP hB hS (c_m_write l D q cA σ7 ((σ7 5 (ix x4)) + (x1 &&& 63)) (σ7 5 (ix x3))) (cwV 2 hts gM_80 rfl rfl rfl hdM_write ⟨Nat.le_of_ble_eq_true rfl, Nat.le_of_ble_eq_true rfl⟩) (mrv_0 hC hP) rfl hl.1 rfl (Nat.le_of_ble_eq_true rfl) dM_perform_317 (fun σ21 H locs e21 hP hB hS => ?_)
      have hE := hE.trans (bd_e e21)
      refine lv_goto (tgt := 465) hx hb dM_perform_320 rfl ?_
      have hl := lv_sub hl [] rfl
      exact b465 _ _ _ _ hE hl hP hB hS
    have hE := hE.trans (if_neg h20)
    rcases Classical.em (x2 = 5) with h22 | h22
    · have hE := hE.trans (if_pos h22)
      refine lv_tableIn (tgt := 323) hx hb dM_perform_110 (by rw [h22]; decide) (by rw [h22]; decide) (by rw [h22]; rfl) rfl ?_
      refine lv_aload_n hx hb dM_perform_323 rfl (lv_at hl 0 rfl) ?_
      refine lv_aload_n hx hb dM_perform_324 rfl (lv_at hl 0 rfl) ?_
      refine mget_0_8 hx hb hts inM hown hC hP (hts _ wM_f26) dM_perform_325 ?_
      refine lv_iload_n hx hb dM_perform_328 rfl (lv_at hl 3 rfl) ?_
      refine mald_5 hx hb hC hP hin12_x3 dM_perform_329 ?_
      refine mcallv (rest := []) ⟨hx, hb, hml, hown, hts⟩ hC hP hB hS (c_m_push l D q cA σ7 (σ7 5 (ix x3))) (cwV 1 hts gM_90 rfl rfl rfl hdM_push ⟨Nat.le_of_ble_eq_true rfl, Nat.le_of_ble_eq_true rfl⟩) (mrv_0 hC hP) rfl hl.1 rfl (Nat.le_of_ble_eq_true rfl) dM_perform_330 (fun σ23 H locs e23 hP hB hS => ?_)
      have hE := hE.trans (bd_e e23)
      refine lv_goto (tgt := 465) hx hb dM_perform_333 rfl ?_
      have hl := lv_sub hl [] rfl
      exact b465 _ _ _ _ hE hl hP hB hS
    have hE := hE.trans (if_neg h22)
    rcases Classical.em (x2 = 6) with h24 | h24
    · have hE := hE.trans (if_pos h24)
      refine lv_tableIn (tgt := 336) hx hb dM_perform_110 (by rw [h24]; decide) (by rw [h24]; decide) (by rw [h24]; rfl) rfl ?_
      refine lv_aload_n hx hb dM_perform_336 rfl (lv_at hl 0 rfl) ?_
      refine mget_0_8 hx hb hts inM hown hC hP (hts _ wM_f26) dM_perform_337 ?_
      refine lv_iload_n hx hb dM_perform_340 rfl (lv_at hl 3 rfl) ?_
      refine lv_aload_n hx hb dM_perform_341 rfl (lv_at hl 0 rfl) ?_
      refine mcalli (rest := [.int x3, .ref (q 5)]) ⟨hx, hb, hml, hown, hts⟩ hC hP hB hS (c_m_pop l D q cA σ7) (cwV 0 hts gM_106 rfl rfl rfl hdM_pop ⟨Nat.le_of_ble_eq_true rfl, Nat.le_of_ble_eq_true rfl⟩) (mrv_0 hC hP) rfl hl.1 rfl (Nat.le_of_ble_eq_true rfl) dM_perform_342 (fun σ25 v26 H locs e25 hP hB hS => ?_)
      have hE := hE.trans (bd2_e e25)
      refine mast_5 hx hb hC hP hS hin12_x3 dM_perform_345 (fun σ27 H locs e27 hP hS => ?_)
      have hE := hE.trans (bd_e e27)
      have hB : MB σ27 := by rw [e27]; exact hB
      refine lv_goto (tgt := 465) hx hb dM_perform_346 rfl ?_
      have hl := lv_sub hl [] rfl
      exact b465 _ _ _ _ hE hl hP hB hS
    have hE := hE.trans (if_neg h24)
    rcases Classical.em (x2 = 7) with h28 | h28
    · have hE := hE.trans (if_pos h28)
      refine lv_tableIn (tgt := 349) hx hb dM_perform_110 (by rw [h28]; decide) (by rw [h28]; decide) (by rw [h28]; rfl) rfl ?_
      refine lv_aload_n hx hb dM_perform_349 rfl (lv_at hl 0 rfl) ?_
      refine mget_0_8 hx hb hts inM hown hC hP (hts _ wM_f26) dM_perform_350 ?_
      refine lv_bipush (v := 7) hx hb dM_perform_353 (by decide) ?_
      refine lv_iload_n hx hb dM_perform_355 rfl (lv_at hl 1 rfl) ?_
      refine lv_sipush (v := 255) hx hb dM_perform_356 (by decide) ?_
      refine lv_iand hx hb dM_perform_359 ?_
      refine mast_5 hx hb hC hP hS (vin_c (by decide)) dM_perform_360 (fun σ29 H locs e29 hP hS => ?_)
      have hE := hE.trans (bd_e e29)
      have hB : MB σ29 := by rw [e29]; exact hB
      refine lv_goto (tgt := 465) hx hb dM_perform_361 rfl ?_
      have hl := lv_sub hl [] rfl
      exact b465 _ _ _ _ hE hl hP hB hS
    have hE := hE.trans (if_neg h28)
    rcases Classical.em (x2 = 8) with h30 | h30
    · have hE := hE.trans (if_pos h30)
      refine lv_tableIn (tgt := 364) hx hb dM_perform_110 (by rw [h30]; decide) (by rw [h30]; decide) (by rw [h30]; rfl) rfl ?_
      refine lv_aload_n hx hb dM_perform_364 rfl (lv_at hl 0 rfl) ?_
      refine mget_0_8 hx hb hts inM hown hC hP (hts _ wM_f26) dM_perform_365 ?_
      refine lv_bipush (v := 7) hx hb dM_perform_368 (by decide) ?_
      refine lv_aload_n hx hb dM_perform_370 rfl (lv_at hl 0 rfl) ?_
      refine mget_0_8 hx hb hts inM hown hC hP (hts _ wM_f26) dM_perform_371 ?_
      refine lv_bipush (v := 10) hx hb dM_perform_374 (by decide) ?_
      refine mald_5 hx hb hC hP (vin_c (by decide)) dM_perform_376 ?_
      refine lv_iconst (v := 1) hx hb dM_perform_377 (by decide) ?_
      refine lv_icmp_ne (tgt := 389) hx hb dM_perform_378 rfl (fun h31 => ?_) (fun h31 => ?_)
      · have hE := hE.trans (if_neg h31)
        refine lv_iload hx hb dM_perform_389 (lv_at hl 6 rfl) ?_
        have hl := lv_sub hl [] rfl
        exact b391_7 _ _ _ _ x6 hE hl hP hB hS
      · have hE := hE.trans (if_pos h31)
        refine lv_iload_n hx hb dM_perform_381 rfl (lv_at hl 1 rfl) ?_
        refine lv_sipush (v := 255) hx hb dM_perform_382 (by decide) ?_
        refine lv_iand hx hb dM_perform_385 ?_
        refine lv_goto (tgt := 391) hx hb dM_perform_386 rfl ?_
        have hl := lv_sub hl [] rfl
        exact b391_7 _ _ _ _ (x1 &&& 255) hE hl hP hB hS
    have hE := hE.trans (if_neg h30)
    rcases Classical.em (x2 = 9) with h33 | h33
    · have hE := hE.trans (if_pos h33)
      refine lv_tableIn (tgt := 395) hx hb dM_perform_110 (by rw [h33]; decide) (by rw [h33]; decide) (by rw [h33]; rfl) rfl ?_
      refine lv_aload_n hx hb dM_perform_395 rfl (lv_at hl 0 rfl) ?_
      refine lv_iload hx hb dM_perform_396 (lv_at hl 4 rfl) ?_
      refine lv_iload hx hb dM_perform_398 (lv_at hl 6 rfl) ?_
      refine mcallv (rest := []) ⟨hx, hb, hml, hown, hts⟩ hC hP hB hS (c_m_call l D q cA σ7 x4 x6 hin12_x4) (cwV 2 hts gM_118 rfl rfl rfl hdM_call ⟨Nat.le_of_ble_eq_true rfl, Nat.le_of_ble_eq_true rfl⟩) (mrv_0 hC hP) rfl hl.1 rfl (Nat.le_of_ble_eq_true rfl) dM_perform_400 (fun σ34 H locs e34 hP hB hS => ?_)
      have hE := hE.trans (bd_e e34)
      refine lv_goto (tgt := 465) hx hb dM_perform_403 rfl ?_
      have hl := lv_sub hl [] rfl
      exact b465 _ _ _ _ hE hl hP hB hS
    have hE := hE.trans (if_neg h33)
    rcases Classical.em (x2 = 10) with h35 | h35
    · have hE := hE.trans (if_pos h35)
      refine lv_tableIn (tgt := 406) hx hb dM_perform_110 (by rw [h35]; decide) (by rw [h35]; decide) (by rw [h35]; rfl) rfl ?_
      refine lv_goto (tgt := 465) hx hb dM_perform_406 rfl ?_
      have hl := lv_sub hl [] rfl
      exact b465 _ _ _ _ hE hl hP hB hS
    have hE := hE.trans (if_neg h35)
    rcases Classical.em (x2 = 11) with h36 | h36
    · have hE := hE.trans (if_pos h36)
      refine lv_tableIn (tgt := 409) hx hb dM_perform_110 (by rw [h36]; decide) (by rw [h36]; decide) (by rw [h36]; rfl) rfl ?_
      refine lv_aload_n hx hb dM_perform_409 rfl (lv_at hl 0 rfl) ?_
      refine lv_iload hx hb dM_perform_410 (lv_at hl 4 rfl) ?_
      refine lv_iload hx hb dM_perform_412 (lv_at hl 6 rfl) ?_
      refine lv_iconst (v := 0) hx hb dM_perform_414 (by decide) ?_
      refine mcallv (rest := []) ⟨hx, hb, hml, hown, hts⟩ hC hP hB hS (c_m_outwards l D q cA σ7 x4 x6 0 hin12_x4 (by decide)) (cwV 3 hts gM_121 rfl rfl rfl hdM_outwards ⟨Nat.le_of_ble_eq_true rfl, Nat.le_of_ble_eq_true rfl⟩) (mrv_0 hC hP) rfl hl.1 rfl (Nat.le_of_ble_eq_true rfl) dM_perform_415 (fun σ37 H locs e37 hP hB hS => ?_)
      have hE := hE.trans (bd_e e37)
      refine lv_goto (tgt := 465) hx hb dM_perform_418 rfl ?_
      have hl := lv_sub hl [] rfl
      exact b465 _ _ _ _ hE hl hP hB hS
    have hE := hE.trans (if_neg h36)
    rcases Classical.em (x2 = 12) with h38 | h38
    · have hE := hE.trans (if_pos h38)
      refine lv_tableIn (tgt := 421) hx hb dM_perform_110 (by rw [h38]; decide) (by rw [h38]; decide) (by rw [h38]; rfl) rfl ?_
      refine lv_aload_n hx hb dM_perform_421 rfl (lv_at hl 0 rfl) ?_
      refine lv_iload hx hb dM_perform_422 (lv_at hl 4 rfl) ?_
      refine lv_iload hx hb dM_perform_424 (lv_at hl 6 rfl) ?_
      refine lv_iconst (v := 1) hx hb dM_perform_426 (by decide) ?_
      refine mcallv (rest := []) ⟨hx, hb, hml, hown, hts⟩ hC hP hB hS (c_m_outwards l D q cA σ7 x4 x6 1 hin12_x4 (by decide)) (cwV 3 hts gM_121 rfl rfl rfl hdM_outwards ⟨Nat.le_of_ble_eq_true rfl, Nat.le_of_ble_eq_true rfl⟩) (mrv_0 hC hP) rfl hl.1 rfl (Nat.le_of_ble_eq_true rfl) dM_perform_427 (fun σ39 H locs e39 hP hB hS => ?_)
      have hE := hE.trans (bd_e e39)
      refine lv_goto (tgt := 465) hx hb dM_perform_430 rfl ?_
      have hl := lv_sub hl [] rfl
      exact b465 _ _ _ _ hE hl hP hB hS
    have hE := hE.trans (if_neg h38)
    rcases Classical.em (x2 = 13) with h40 | h40
    · have hE := hE.trans (if_pos h40)
      refine lv_tableIn (tgt := 433) hx hb dM_perform_110 (by rw [h40]; decide) (by rw [h40]; decide) (by rw [h40]; rfl) rfl ?_
      refine lv_aload_n hx hb dM_perform_433 rfl (lv_at hl 0 rfl) ?_
      refine mcallv (rest := []) ⟨hx, hb, hml, hown, hts⟩ hC hP hB hS (c_m_returns l D q cA σ7) (cwV 0 hts gM_125 rfl rfl rfl hdM_returns ⟨Nat.le_of_ble_eq_true rfl, Nat.le_of_ble_eq_true rfl⟩) (mrv_0 hC hP) rfl hl.1 rfl (Nat.le_of_ble_eq_true rfl) dM_perform_434 (fun σ41 H locs e41 hP hB hS => ?_)
      have hE := hE.trans (bd_e e41)
      refine lv_goto (tgt := 465) hx hb dM_perform_437 rfl ?_
      have hl := lv_sub hl [] rfl
      exact b465 _ _ _ _ hE hl hP hB hS
    have hE := hE.trans (if_neg h40)
    rcases Classical.em (x2 = 14) with h42 | h42
    · have hE := hE.trans (if_pos h42)
      refine lv_tableIn (tgt := 440) hx hb dM_perform_110 (by rw [h42]; decide) (by rw [h42]; decide) (by rw [h42]; rfl) rfl ?_
      refine lv_aload_n hx hb dM_perform_440 rfl (lv_at hl 0 rfl) ?_
      refine lv_dup hx hb dM_perform_441 rfl ?_
      refine mget_0_12 hx hb hts inM hown hC hP (hts _ wM_f55) dM_perform_442 ?_
      refine lv_iconst (v := 1) hx hb dM_perform_445 (by decide) ?_
      refine lv_iconst (v := 3) hx hb dM_perform_446 (by decide) ?_
      refine lv_iload hx hb dM_perform_447 (lv_at hl 5 rfl) ?_
      refine lv_iconst (v := 4) hx hb dM_perform_449 (by decide) ?_
      refine lv_irem hx hb dM_perform_450 (by decide) ?_
      refine lv_iadd hx hb dM_perform_451 ?_
      refine lv_ishl hx hb dM_perform_452 ?_
      refine lv_ior hx hb dM_perform_453 ?_
      refine mput_0_12 hx hb hts inM hown hC hP (hts _ wM_f55) hS dM_perform_454 (fun σ43 H locs e43 hP hS => ?_)
      have hE := hE.trans (bd_e e43)
      have hB : MB σ43 := by rw [e43]; exact hB
      refine lv_goto (tgt := 465) hx hb dM_perform_457 rfl ?_
      have hl := lv_sub hl [] rfl
      exact b465 _ _ _ _ hE hl hP hB hS
    have hE := hE.trans (if_neg h42)
    · refine lv_tableOut (tgt := 460) hx hb dM_perform_110 (by have n0 := ne_t 0 0 (by decide) h8; have n1 := ne_t 1 1 (by decide) h10; have n2 := ne_t 2 2 (by decide) h12; have n3 := ne_t 3 3 (by decide) h16; have n4 := ne_t 4 4 (by decide) h20; have n5 := ne_t 5 5 (by decide) h22; have n6 := ne_t 6 6 (by decide) h24; have n7 := ne_t 7 7 (by decide) h28; have n8 := ne_t 8 8 (by decide) h30; have n9 := ne_t 9 9 (by decide) h33; have n10 := ne_t 10 10 (by decide) h35; have n11 := ne_t 11 11 (by decide) h36; have n12 := ne_t 12 12 (by decide) h38; have n13 := ne_t 13 13 (by decide) h40; have n14 := ne_t 14 14 (by decide) h42; omega) rfl ?_
      refine lv_aload_n hx hb dM_perform_460 rfl (lv_at hl 0 rfl) ?_
      refine lv_iconst (v := 1) hx hb dM_perform_461 (by decide) ?_
      refine mput_0_11 hx hb hts inM hown hC hP (hts _ wM_f49) hS dM_perform_462 (fun σ44 H locs e44 hP hS => ?_)
      have hE := hE.trans (bd_e e44)
      have hB : MB σ44 := by rw [e44]; exact hB
      have hl := lv_sub hl [] rfl
      exact b465 _ _ _ _ hE hl hP hB hS
  have b68 : ∀ (H : Heap) (locs : List Loc) (ls : Array Slot) (σ : St) (x1 : Int32) (x2 : Int32) (x3 : Int32) (x4 : Int32) (x5 : Int32) (x6 : Int32) (y0 : Int32), vp_in x3 12 → vp_in x4 12 → vp_in x5 12 → m_perform σ0 a1 = m_perform_68 σ x1 x2 x3 x4 x5 x6 y0 → lv_has ls 8 [(0, .ref (q 0)), (1, .int x1), (2, .int x2), (3, .int x3), (4, .int x4), (5, .int x5), (6, .int x6)] → va_P D vwCl (wsM q cA σ) H → MB σ → va_S (MA q) s.heap H locs → W p l e (headSpec wsM_perform { frames := 6, cells := 0, slots := 0, locals := 135 }).room s m ([.ref (q 0), .int a1] : List Value).toArray below meth c H locs 0 0 (MQ below (va_Qv (fun u => u = m_perform σ0 a1) (MPost D q cA) (MA q)) ([.ref (q 0), .int a1] : List Value).toArray s 0 0 (MA q)) (F0 m 68 ls [.int y0]) := by
    intro H locs ls σ x1 x2 x3 x4 x5 x6 y0 hin12_x3 hin12_x4 hin12_x5 hE hl hP hB hS
    refine lv_istore (lv' := [(7, .int y0), (0, .ref (q 0)), (1, .int x1), (2, .int x2), (3, .int x3), (4, .int x4), (5, .int x5), (6, .int x6)]) hx hb dM_perform_68 hl (by decide) rfl (fun ls hl => ?_)
    refine lv_iload_n hx hb dM_perform_70 rfl (lv_at hl 3 rfl) ?_
    refine lv_iload_n hx hb dM_perform_71 rfl (lv_at hl 4 rfl) ?_
    refine lv_iload hx hb dM_perform_72 (lv_at hl 5 rfl) ?_
    refine lv_iload hx hb dM_perform_74 (lv_at hl 6 rfl) ?_
    refine mscalli (rest := []) ⟨hx, hb, hml, hown, hts⟩ hC hP hB hS (c_m_namesSeven l D q cA σ x2 x3 x4 x5) (va_cwS 4 hts gM_114 rfl rfl rfl hdM_namesSeven ⟨Nat.le_of_ble_eq_true rfl, Nat.le_of_ble_eq_true rfl⟩) rfl hl.1 rfl (Nat.le_of_ble_eq_true rfl) dM_perform_76 (fun σ2 v3 H locs e2 hP hB hS => ?_)
    have z2 : zb v3 := e2.2
    have hE := hE.trans (bd2_e e2.1)
    refine lv_if_ne (tgt := 94) hx hb dM_perform_79 rfl (fun h4 => ?_) (fun h4 => ?_)
    · have hE := hE.trans (if_neg h4)
      have hl := lv_sub hl [1] rfl
      exact b94 _ _ _ _ hE hl hP hB hS
    · have hE := hE.trans (if_pos h4)
      refine lv_iload hx hb dM_perform_82 (lv_at hl 0 rfl) ?_
      refine lv_if_eq (tgt := 100) hx hb dM_perform_84 rfl (fun h6 => ?_) (fun h6 => ?_)
      · have hE := hE.trans (if_pos h6)
        have hl := lv_sub hl [1, 2, 3, 4, 5, 6, 7] rfl
        exact b100 _ _ _ _ x1 x2 x3 x4 x5 x6 hin12_x3 hin12_x4 hin12_x5 hE hl hP hB hS
      · have hE := hE.trans (if_neg h6)
        refine lv_aload_n hx hb dM_perform_87 rfl (lv_at hl 1 rfl) ?_
        refine mcalli (rest := []) ⟨hx, hb, hml, hown, hts⟩ hC hP hB hS (c_m_isOpenWorld l D q cA σ2) (cwV 0 hts gM_61 rfl rfl rfl hdM_isOpenWorld ⟨Nat.le_of_ble_eq_true rfl, Nat.le_of_ble_eq_true rfl⟩) (mrv_0 hC hP) rfl hl.1 rfl (Nat.le_of_ble_eq_true rfl) dM_perform_88 (fun σ45 v46 H locs e45 hP hB hS => ?_)
        have z45 : zb v46 := e45.2
        have hE := hE.trans (bd2_e e45.1)
        refine lv_if_eq (tgt := 100) hx hb dM_perform_91 rfl (fun h47 => ?_) (fun h47 => ?_)
        · have hE := hE.trans (if_pos h47)
          have hl := lv_sub hl [1, 2, 3, 4, 5, 6, 7] rfl
          exact b100 _ _ _ _ x1 x2 x3 x4 x5 x6 hin12_x3 hin12_x4 hin12_x5 hE hl hP hB hS
        · have hE := hE.trans (if_neg h47)
          have hl := lv_sub hl [1] rfl
          exact b94 _ _ _ _ hE hl hP hB hS
  have b63 : ∀ (H : Heap) (locs : List Loc) (ls : Array Slot) (σ : St) (x1 : Int32) (x2 : Int32) (x3 : Int32) (x4 : Int32) (x5 : Int32) (x6 : Int32), vp_in x3 12 → vp_in x4 12 → vp_in x5 12 → m_perform σ0 a1 = m_perform_63 σ x1 x2 x3 x4 x5 x6 → lv_has ls 8 [(0, .ref (q 0)), (1, .int x1), (2, .int x2), (3, .int x3), (4, .int x4), (5, .int x5), (6, .int x6)] → va_P D vwCl (wsM q cA σ) H → MB σ → va_S (MA q) s.heap H locs → W p l e (headSpec wsM_perform { frames := 6, cells := 0, slots := 0, locals := 135 }).room s m ([.ref (q 0), .int a1] : List Value).toArray below meth c H locs 0 0 (MQ below (va_Qv (fun u => u = m_perform σ0 a1) (MPost D q cA) (MA q)) ([.ref (q 0), .int a1] : List Value).toArray s 0 0 (MA q)) (F0 m 63 ls []) := by
    intro H locs ls σ x1 x2 x3 x4 x5 x6 hin12_x3 hin12_x4 hin12_x5 hE hl hP hB hS
    refine lv_iconst (v := 1) hx hb dM_perform_63 (by decide) ?_
    refine lv_goto (tgt := 68) hx hb dM_perform_64 rfl ?_
    exact b68 _ _ _ _ x1 x2 x3 x4 x5 x6 1 hin12_x3 hin12_x4 hin12_x5 hE hl hP hB hS
  refine lv_iload_n hx hb dM_perform_0 rfl (lv_at hl 1 rfl) ?_
  refine lv_bipush (v := 12) hx hb dM_perform_1 (by decide) ?_
  refine lv_ishr hx hb dM_perform_3 ?_
  refine lv_istore_n (lv' := [(2, .int (a1 >>> ((12 : Int32) &&& 31))), (0, .ref (q 0)), (1, .int a1)]) hx hb dM_perform_4 rfl hl (by decide) rfl (fun ls hl => ?_)
  refine lv_iload_n hx hb dM_perform_5 rfl (lv_at hl 2 rfl) ?_
  refine lv_bipush (v := 9) hx hb dM_perform_6 (by decide) ?_
  refine lv_ishr hx hb dM_perform_8 ?_
  refine lv_bipush (v := 7) hx hb dM_perform_9 (by decide) ?_
  refine lv_iand hx hb dM_perform_11 ?_
  refine lv_istore_n (lv' := [(3, .int ((a1 >>> ((9 : Int32) &&& 31)) &&& 7)), (2, .int (a1 >>> ((12 : Int32) &&& 31))), (0, .ref (q 0)), (1, .int a1)]) hx hb dM_perform_12 rfl hl (by decide) rfl (fun ls hl => ?_)
  refine lv_iload_n hx hb dM_perform_13 rfl (lv_at hl 3 rfl) ?_
  refine lv_bipush (v := 6) hx hb dM_perform_14 (by decide) ?_
  refine lv_ishr hx hb dM_perform_16 ?_
  refine lv_bipush (v := 7) hx hb dM_perform_17 (by decide) ?_
  refine lv_iand hx hb dM_perform_19 ?_
  refine lv_istore (lv' := [(4, .int ((a1 >>> ((6 : Int32) &&& 31)) &&& 7)), (3, .int ((a1 >>> ((9 : Int32) &&& 31)) &&& 7)), (2, .int (a1 >>> ((12 : Int32) &&& 31))), (0, .ref (q 0)), (1, .int a1)]) hx hb dM_perform_20 hl (by decide) rfl (fun ls hl => ?_)
  refine lv_iload_n hx hb dM_perform_22 rfl (lv_at hl 4 rfl) ?_
  refine lv_iconst (v := 3) hx hb dM_perform_23 (by decide) ?_
  refine lv_ishr hx hb dM_perform_24 ?_
  refine lv_bipush (v := 7) hx hb dM_perform_25 (by decide) ?_
  refine lv_iand hx hb dM_perform_27 ?_
  refine lv_istore (lv' := [(5, .int ((a1 >>> ((3 : Int32) &&& 31)) &&& 7)), (4, .int ((a1 >>> ((6 : Int32) &&& 31)) &&& 7)), (3, .int ((a1 >>> ((9 : Int32) &&& 31)) &&& 7)), (2, .int (a1 >>> ((12 : Int32) &&& 31))), (0, .ref (q 0)), (1, .int a1)]) hx hb dM_perform_28 hl (by decide) rfl (fun ls hl => ?_)
  refine lv_aload_n hx hb dM_perform_30 rfl (lv_at hl 4 rfl) ?_
  refine mget_0_8 hx hb hts inM hown hC hP (hts _ wM_f26) dM_perform_31 ?_
  refine lv_bipush (v := 7) hx hb dM_perform_34 (by decide) ?_
  refine mald_5 hx hb hC hP (vin_c (by decide)) dM_perform_36 ?_
  refine lv_iconst (v := 1) hx hb dM_perform_37 (by decide) ?_
  refine lv_iadd hx hb dM_perform_38 ?_
  refine lv_sipush (v := 255) hx hb dM_perform_39 (by decide) ?_
  refine lv_iand hx hb dM_perform_42 ?_
  refine lv_istore (lv' := [(6, .int (((σ0 5 (ix 7)) + 1) &&& 255)), (5, .int ((a1 >>> ((3 : Int32) &&& 31)) &&& 7)), (4, .int ((a1 >>> ((6 : Int32) &&& 31)) &&& 7)), (3, .int ((a1 >>> ((9 : Int32) &&& 31)) &&& 7)), (2, .int (a1 >>> ((12 : Int32) &&& 31))), (0, .ref (q 0)), (1, .int a1)]) hx hb dM_perform_43 hl (by decide) rfl (fun ls hl => ?_)
  refine lv_iload_n hx hb dM_perform_45 rfl (lv_at hl 4 rfl) ?_
  refine lv_bipush (v := 11) hx hb dM_perform_46 (by decide) ?_
  refine lv_icmp_eq (tgt := 63) hx hb dM_perform_48 rfl (fun h1 => ?_) (fun h1 => ?_)
  · have hE := hE.trans (if_pos h1)
    have hl := lv_sub hl [5, 6, 4, 3, 2, 1, 0] rfl
    exact b63 _ _ _ _ a1 (a1 >>> ((12 : Int32) &&& 31)) ((a1 >>> ((9 : Int32) &&& 31)) &&& 7) ((a1 >>> ((6 : Int32) &&& 31)) &&& 7) ((a1 >>> ((3 : Int32) &&& 31)) &&& 7) (((σ0 5 (ix 7)) + 1) &&& 255) (vin_m 3 (by decide) (by decide) (by decide)) (vin_m 3 (by decide) (by decide) (by decide)) (vin_m 3 (by decide) (by decide) (by decide)) hE hl hP hB hS
  · have hE := hE.trans (if_neg h1)
    refine lv_iload_n hx hb dM_perform_51 rfl (lv_at hl 4 rfl) ?_
    refine lv_bipush (v := 12) hx hb dM_perform_52 (by decide) ?_
    refine lv_icmp_eq (tgt := 63) hx hb dM_perform_54 rfl (fun h48 => ?_) (fun h48 => ?_)
    · have hE := hE.trans (if_pos h48)
      have hl := lv_sub hl [5, 6, 4, 3, 2, 1, 0] rfl
      exact b63 _ _ _ _ a1 (a1 >>> ((12 : Int32) &&& 31)) ((a1 >>> ((9 : Int32) &&& 31)) &&& 7) ((a1 >>> ((6 : Int32) &&& 31)) &&& 7) ((a1 >>> ((3 : Int32) &&& 31)) &&& 7) (((σ0 5 (ix 7)) + 1) &&& 255) (vin_m 3 (by decide) (by decide) (by decide)) (vin_m 3 (by decide) (by decide) (by decide)) (vin_m 3 (by decide) (by decide) (by decide)) hE hl hP hB hS
    · have hE := hE.trans (if_neg h48)
      refine lv_iload_n hx hb dM_perform_57 rfl (lv_at hl 4 rfl) ?_
      refine lv_bipush (v := 15) hx hb dM_perform_58 (by decide) ?_
      refine lv_icmp_ne (tgt := 67) hx hb dM_perform_60 rfl (fun h49 => ?_) (fun h49 => ?_)
      · have hE := hE.trans (if_neg h49)
        refine lv_iconst (v := 0) hx hb dM_perform_67 (by decide) ?_
        have hl := lv_sub hl [5, 6, 4, 3, 2, 1, 0] rfl
        exact b68 _ _ _ _ a1 (a1 >>> ((12 : Int32) &&& 31)) ((a1 >>> ((9 : Int32) &&& 31)) &&& 7) ((a1 >>> ((6 : Int32) &&& 31)) &&& 7) ((a1 >>> ((3 : Int32) &&& 31)) &&& 7) (((σ0 5 (ix 7)) + 1) &&& 255) 0 (vin_m 3 (by decide) (by decide) (by decide)) (vin_m 3 (by decide) (by decide) (by decide)) (vin_m 3 (by decide) (by decide) (by decide)) hE hl hP hB hS
      · have hE := hE.trans (if_pos h49)
        have hl := lv_sub hl [5, 6, 4, 3, 2, 1, 0] rfl
        exact b63 _ _ _ _ a1 (a1 >>> ((12 : Int32) &&& 31)) ((a1 >>> ((9 : Int32) &&& 31)) &&& 7) ((a1 >>> ((6 : Int32) &&& 31)) &&& 7) ((a1 >>> ((3 : Int32) &&& 31)) &&& 7) (((σ0 5 (ix 7)) + 1) &&& 255) (vin_m 3 (by decide) (by decide) (by decide)) (vin_m 3 (by decide) (by decide) (by decide)) (vin_m 3 (by decide) (by decide) (by decide)) hE hl hP hB hS
