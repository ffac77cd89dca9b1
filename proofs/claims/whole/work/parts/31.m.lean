set_option maxRecDepth 100000 in
set_option maxHeartbeats 4000000 in
theorem c_m_pop (l : Launch) (D : va_G) (q : Nat → Nat) (cA : ClassId) (σ0 : St) : Met l yM_pop wsM_pop { frames := 3, cells := 0, slots := 0, locals := 67 } (va_Pc [.ref (q 0)] (MPre D q cA σ0)) (va_Qi (fun r u => (u, r) = m_pop σ0) (MPost D q cA) (MA q)) 0 0 (MA q) := by
  refine Met.ofW (cc := cM_pop) (maxL := 3) (ret := (some .int)) (by decide) rfl ?_
  intro p e s m args below meth c s₁ B hml hv
  obtain ⟨rfl, hP, hB, hC⟩ := hv
  have hx := B.exec
  have hb := B.bytes
  have hr := B.returns
  have hts : ∀ w ∈ gw, w.before ([.ref (q 0)] : List Value).toArray s = true := fun w h => atoms_spec (ws := wsM_pop) B.pre w (List.mem_cons_of_mem _ h)
  have hown : s.vm.findClass RM = some m.cls := findClass_of_methodNamed B.named
  have hlocks := B.notSynchronized
  have hS : va_S (MA q) s.heap s.heap [] := va_S.rf
  have hl := lv_entry ([.ref (q 0)]) (n := 3) (Nat.le_of_ble_eq_true rfl)
  rw [lg_entry_eq]
  generalize (lg_sl ([.ref (q 0)]) ++ List.replicate (3 - (lg_sl ([.ref (q 0)])).length) Slot.unset).toArray = ls at hl ⊢
  have hl : lv_has ls 3 [(0, .ref (q 0))] := hl
  have hE : m_pop σ0 = m_pop σ0 := rfl
  refine lv_aload_n hx hb dM_pop_0 rfl (lv_at hl 0 rfl) ?_
  refine mget_0_14 hx hb hts inM hown hC hP (hts _ wM_f58) dM_pop_1 ?_
  refine lv_if_eq (tgt := 9) hx hb dM_pop_4 rfl (fun h1 => ?_) (fun h1 => ?_)
  · have hE := hE.trans (if_pos h1)
    refine lv_aload_n hx hb dM_pop_9 rfl (lv_at hl 0 rfl) ?_
    refine mcalli (rest := []) ⟨hx, hb, hml, hown, hts⟩ hC hP hB hS (c_m_stack l D q cA σ0) (cwV 0 hts gM_76 rfl rfl rfl hdM_stack ⟨Nat.le_of_ble_eq_true rfl, Nat.le_of_ble_eq_true rfl⟩) (mrv_0 hC hP) rfl hl.1 rfl (Nat.le_of_ble_eq_true rfl) dM_pop_10 (fun σ2 v3 H locs e2 hP hB hS => ?_)
    have z2 : vp_in v3 12 := e2.2
    have hE := hE.trans (bd2_e e2.1)
    refine lv_istore_n (lv' := [(1, .int v3), (0, .ref (q 0))]) hx hb dM_pop_13 rfl hl (by decide) rfl (fun ls hl => ?_)
    refine lv_aload_n hx hb dM_pop_14 rfl (lv_at hl 1 rfl) ?_
    refine lv_aload_n hx hb dM_pop_15 rfl (lv_at hl 1 rfl) ?_
    refine mget_0_8 hx hb hts inM hown hC hP (hts _ wM_f26) dM_pop_16 ?_
    refine lv_iload_n hx hb dM_pop_19 rfl (lv_at hl 0 rfl) ?_
    refine mald_5 hx hb hC hP z2 dM_pop_20 ?_
    refine mcalli (rest := []) ⟨hx, hb, hml, hown, hts⟩ hC hP hB hS (c_m_read l D q cA σ2 (σ2 5 (ix v3))) (cwV 1 hts gM_84 rfl rfl rfl hdM_read ⟨Nat.le_of_ble_eq_true rfl, Nat.le_of_ble_eq_true rfl⟩) (mrv_0 hC hP) rfl hl.1 rfl (Nat.le_of_ble_eq_true rfl) dM_pop_21 (fun σ4 v5 H locs e4 hP hB hS => ?_)
    have hE := hE.trans (bd2_e e4)
    refine lv_istore_n (lv' := [(2, .int v5), (1, .int v3), (0, .ref (q 0))]) hx hb dM_pop_24 rfl hl (by decide) rfl (fun ls hl => ?_)
    refine lv_aload_n hx hb dM_pop_25 rfl (lv_at hl 2 rfl) ?_
    refine mget_0_8 hx hb hts inM hown hC hP (hts _ wM_f26) dM_pop_26 ?_
    refine lv_iload_n hx hb dM_pop_29 rfl (lv_at hl 1 rfl) ?_
    refine lv_aload_n hx hb dM_pop_30 rfl (lv_at hl 2 rfl) ?_
    refine mget_0_8 hx hb hts inM hown hC hP (hts _ wM_f26) dM_pop_31 ?_
    refine lv_iload_n hx hb dM_pop_34 rfl (lv_at hl 1 rfl) ?_
    refine mald_5 hx hb hC hP z2 dM_pop_35 ?_
    refine lv_iconst (v := 1) hx hb dM_pop_36 (by decide) ?_
    refine lv_iadd hx hb dM_pop_37 ?_
    refine lv_ldc (v := 65535) hx hb hown (hts _ wM_c32) dM_pop_38 ?_
    refine lv_iand hx hb dM_pop_40 ?_
    refine mast_5 hx hb hC hP hS z2 dM_pop_41 (fun σ6 H locs e6 hP hS => ?_)
    have hE := hE.trans (bd_e e6)
    have hB : MB σ6 := by rw [e6]; exact hB
    refine lv_iload_n hx hb dM_pop_42 rfl (lv_at hl 0 rfl) ?_
    exact W.iret (v := v5) hx hb hr (fun t ht hW => ⟨⟨v5, σ6, rfl, hE.symm, ⟨by rw [ht]; exact hP, hB⟩⟩, hS.F ht⟩) hS.2.2 dM_pop_43
  · have hE := hE.trans (if_neg h1)
    refine lv_iconst (v := 0) hx hb dM_pop_7 (by decide) ?_
    exact W.iret (v := 0) hx hb hr (fun t ht hW => ⟨⟨0, σ0, rfl, hE.symm, ⟨by rw [ht]; exact hP, hB⟩⟩, hS.F ht⟩) hS.2.2 dM_pop_8
set_option maxRecDepth 100000 in
set_option maxHeartbeats 4000000 in
theorem c_m_keep (l : Launch) (D : va_G) (q : Nat → Nat) (cA : ClassId) (σ0 : St) : Met l yM_keep wsM_keep { frames := 0, cells := 0, slots := 0, locals := 0 } (va_Pc [.ref (q 0)] (MPre D q cA σ0)) (va_Qv (fun u => u = m_keep σ0) (MPost D q cA) (MA q)) 0 0 (MA q) := by
  refine Met.ofW (cc := cM_keep) (maxL := 2) (ret := none) (by decide) rfl ?_
  intro p e s m args below meth c s₁ B hml hv
  obtain ⟨rfl, hP, hB, hC⟩ := hv
  have hx := B.exec
  have hb := B.bytes
  have hr := B.returns
  have hts : ∀ w ∈ gw, w.before ([.ref (q 0)] : List Value).toArray s = true := fun w h => atoms_spec (ws := wsM_keep) B.pre w (List.mem_cons_of_mem _ h)
  have hown : s.vm.findClass RM = some m.cls := findClass_of_methodNamed B.named
  have hlocks := B.notSynchronized
  have hS : va_S (MA q) s.heap s.heap [] := va_S.rf
  have hl := lv_entry ([.ref (q 0)]) (n := 2) (Nat.le_of_ble_eq_true rfl)
  rw [lg_entry_eq]
  generalize (lg_sl ([.ref (q 0)]) ++ List.replicate (2 - (lg_sl ([.ref (q 0)])).length) Slot.unset).toArray = ls at hl ⊢
  have hl : lv_has ls 2 [(0, .ref (q 0))] := hl
  have hE : m_keep σ0 = m_keep σ0 := rfl
  have b2_12 : ∀ (H : Heap) (locs : List Loc) (ls : Array Slot) (σ : St), m_keep σ0 = m_keep_2_12 σ → lv_has ls 2 [(0, .ref (q 0)), (1, .int 12)] → va_P D vwCl (wsM q cA σ) H → MB σ → va_S (MA q) s.heap H locs → W p l e (headSpec wsM_keep { frames := 0, cells := 0, slots := 0, locals := 0 }).room s m ([.ref (q 0)] : List Value).toArray below meth c H locs 0 0 (MQ below (va_Qv (fun u => u = m_keep σ0) (MPost D q cA) (MA q)) ([.ref (q 0)] : List Value).toArray s 0 0 (MA q)) (F0 m 2 ls []) := by
    intro H locs ls σ hE hl hP hB hS
    refine lv_iload_n hx hb dM_keep_2 rfl (lv_at hl 1 rfl) ?_
    refine lv_bipush (v := 12) hx hb dM_keep_3 (by decide) ?_
    refine lv_icmp_ge (tgt := 26) hx hb dM_keep_5 rfl (fun _ => ?_) (fun h25 => absurd (by decide) h25)
    refine lv_aload_n hx hb dM_keep_26 rfl (lv_at hl 0 rfl) ?_
    refine lv_iconst (v := 0) hx hb dM_keep_27 (by decide) ?_
    refine mput_0_14 hx hb hts inM hown hC hP (hts _ wM_f58) hS dM_keep_28 (fun σ26 H locs e26 hP hS => ?_)
    have hE := hE.trans (bd_e e26)
    have hB : MB σ26 := by rw [e26]; exact hB
    exact W.vret hx hb hr (fun t ht hW => ⟨⟨σ26, rfl, hE.symm, ⟨by rw [ht]; exact hP, hB⟩⟩, hS.F ht⟩) hS.2.2 dM_keep_31
  have b2_11 : ∀ (H : Heap) (locs : List Loc) (ls : Array Slot) (σ : St), m_keep σ0 = m_keep_2_11 σ → lv_has ls 2 [(0, .ref (q 0)), (1, .int 11)] → va_P D vwCl (wsM q cA σ) H → MB σ → va_S (MA q) s.heap H locs → W p l e (headSpec wsM_keep { frames := 0, cells := 0, slots := 0, locals := 0 }).room s m ([.ref (q 0)] : List Value).toArray below meth c H locs 0 0 (MQ below (va_Qv (fun u => u = m_keep σ0) (MPost D q cA) (MA q)) ([.ref (q 0)] : List Value).toArray s 0 0 (MA q)) (F0 m 2 ls []) := by
    intro H locs ls σ hE hl hP hB hS
    refine lv_iload_n hx hb dM_keep_2 rfl (lv_at hl 1 rfl) ?_
    refine lv_bipush (v := 12) hx hb dM_keep_3 (by decide) ?_
    refine lv_icmp_ge (tgt := 26) hx hb dM_keep_5 rfl (fun h23 => absurd h23 (by decide)) (fun _ => ?_)
    refine lv_aload_n hx hb dM_keep_8 rfl (lv_at hl 0 rfl) ?_
    refine mget_0_9 hx hb hts inM hown hC hP (hts _ wM_f29) dM_keep_9 ?_
    refine lv_iload_n hx hb dM_keep_12 rfl (lv_at hl 1 rfl) ?_
    refine lv_aload_n hx hb dM_keep_13 rfl (lv_at hl 0 rfl) ?_
    refine mget_0_8 hx hb hts inM hown hC hP (hts _ wM_f26) dM_keep_14 ?_
    refine lv_iload_n hx hb dM_keep_17 rfl (lv_at hl 1 rfl) ?_
    refine mald_5 hx hb hC hP (vin_c (by decide)) dM_keep_18 ?_
    refine mast_6 hx hb hC hP hS (vin_c (by decide)) dM_keep_19 (fun σ24 H locs e24 hP hS => ?_)
    have hE := hE.trans (bd_e e24)
    have hB : MB σ24 := by rw [e24]; exact hB
    refine lv_iinc (k := 1) (v := 12) (lv' := [(1, .int 12), (0, .ref (q 0))]) hx hb dM_keep_20 hl rfl (by decide) (by decide) rfl (fun ls hl => ?_)
    refine lv_goto (tgt := 2) hx hb dM_keep_23 rfl ?_
    have hl := lv_sub hl [1, 0] rfl
    exact b2_12 _ _ _ _ hE hl hP hB hS
  have b2_10 : ∀ (H : Heap) (locs : List Loc) (ls : Array Slot) (σ : St), m_keep σ0 = m_keep_2_10 σ → lv_has ls 2 [(0, .ref (q 0)), (1, .int 10)] → va_P D vwCl (wsM q cA σ) H → MB σ → va_S (MA q) s.heap H locs → W p l e (headSpec wsM_keep { frames := 0, cells := 0, slots := 0, locals := 0 }).room s m ([.ref (q 0)] : List Value).toArray below meth c H locs 0 0 (MQ below (va_Qv (fun u => u = m_keep σ0) (MPost D q cA) (MA q)) ([.ref (q 0)] : List Value).toArray s 0 0 (MA q)) (F0 m 2 ls []) := by
    intro H locs ls σ hE hl hP hB hS
    refine lv_iload_n hx hb dM_keep_2 rfl (lv_at hl 1 rfl) ?_
    refine lv_bipush (v := 12) hx hb dM_keep_3 (by decide) ?_
    refine lv_icmp_ge (tgt := 26) hx hb dM_keep_5 rfl (fun h21 => absurd h21 (by decide)) (fun _ => ?_)
    refine lv_aload_n hx hb dM_keep_8 rfl (lv_at hl 0 rfl) ?_
    refine mget_0_9 hx hb hts inM hown hC hP (hts _ wM_f29) dM_keep_9 ?_
    refine lv_iload_n hx hb dM_keep_12 rfl (lv_at hl 1 rfl) ?_
    refine lv_aload_n hx hb dM_keep_13 rfl (lv_at hl 0 rfl) ?_
    refine mget_0_8 hx hb hts inM hown hC hP (hts _ wM_f26) dM_keep_14 ?_
    refine lv_iload_n hx hb dM_keep_17 rfl (lv_at hl 1 rfl) ?_
    refine mald_5 hx hb hC hP (vin_c (by decide)) dM_keep_18 ?_
    refine mast_6 hx hb hC hP hS (vin_c (by decide)) dM_keep_19 (fun σ22 H locs e22 hP hS => ?_)
    have hE := hE.trans (bd_e e22)
    have hB : MB σ22 := by rw [e22]; exact hB
    refine lv_iinc (k := 1) (v := 11) (lv' := [(1, .int 11), (0, .ref (q 0))]) hx hb dM_keep_20 hl rfl (by decide) (by decide) rfl (fun ls hl => ?_)
    refine lv_goto (tgt := 2) hx hb dM_keep_23 rfl ?_
    have hl := lv_sub hl [1, 0] rfl
    exact b2_11 _ _ _ _ hE hl hP hB hS
  have b2_9 : ∀ (H : Heap) (locs : List Loc) (ls : Array Slot) (σ : St), m_keep σ0 = m_keep_2_9 σ → lv_has ls 2 [(0, .ref (q 0)), (1, .int 9)] → va_P D vwCl (wsM q cA σ) H → MB σ → va_S (MA q) s.heap H locs → W p l e (headSpec wsM_keep { frames := 0, cells := 0, slots := 0, locals := 0 }).room s m ([.ref (q 0)] : List Value).toArray below meth c H locs 0 0 (MQ below (va_Qv (fun u => u = m_keep σ0) (MPost D q cA) (MA q)) ([.ref (q 0)] : List Value).toArray s 0 0 (MA q)) (F0 m 2 ls []) := by
    intro H locs ls σ hE hl hP hB hS
    refine lv_iload_n hx hb dM_keep_2 rfl (lv_at hl 1 rfl) ?_
    refine lv_bipush (v := 12) hx hb dM_keep_3 (by decide) ?_
    refine lv_icmp_ge (tgt := 26) hx hb dM_keep_5 rfl (fun h19 => absurd h19 (by decide)) (fun _ => ?_)
    refine lv_aload_n hx hb dM_keep_8 rfl (lv_at hl 0 rfl) ?_
    refine mget_0_9 hx hb hts inM hown hC hP (hts _ wM_f29) dM_keep_9 ?_
    refine lv_iload_n hx hb dM_keep_12 rfl (lv_at hl 1 rfl) ?_
    refine lv_aload_n hx hb dM_keep_13 rfl (lv_at hl 0 rfl) ?_
    refine mget_0_8 hx hb hts inM hown hC hP (hts _ wM_f26) dM_keep_14 ?_
    refine lv_iload_n hx hb dM_keep_17 rfl (lv_at hl 1 rfl) ?_
    refine mald_5 hx hb hC hP (vin_c (by decide)) dM_keep_18 ?_
    refine mast_6 hx hb hC hP hS (vin_c (by decide)) dM_keep_19 (fun σ20 H locs e20 hP hS => ?_)
    have hE := hE.trans (bd_e e20)
    have hB : MB σ20 := by rw [e20]; exact hB
    refine lv_iinc (k := 1) (v := 10) (lv' := [(1, .int 10), (0, .ref (q 0))]) hx hb dM_keep_20 hl rfl (by decide) (by decide) rfl (fun ls hl => ?_)
    refine lv_goto (tgt := 2) hx hb dM_keep_23 rfl ?_
    have hl := lv_sub hl [1, 0] rfl
    exact b2_10 _ _ _ _ hE hl hP hB hS
  have b2_8 : ∀ (H : Heap) (locs : List Loc) (ls : Array Slot) (σ : St), m_keep σ0 = m_keep_2_8 σ → lv_has ls 2 [(0, .ref (q 0)), (1, .int 8)] → va_P D vwCl (wsM q cA σ) H → MB σ → va_S (MA q) s.heap H locs → W p l e (headSpec wsM_keep { frames := 0, cells := 0, slots := 0, locals := 0 }).room s m ([.ref (q 0)] : List Value).toArray below meth c H locs 0 0 (MQ below (va_Qv (fun u => u = m_keep σ0) (MPost D q cA) (MA q)) ([.ref (q 0)] : List Value).toArray s 0 0 (MA q)) (F0 m 2 ls []) := by
    intro H locs ls σ hE hl hP hB hS
    refine lv_iload_n hx hb dM_keep_2 rfl (lv_at hl 1 rfl) ?_
    refine lv_bipush (v := 12) hx hb dM_keep_3 (by decide) ?_
    refine lv_icmp_ge (tgt := 26) hx hb dM_keep_5 rfl (fun h17 => absurd h17 (by decide)) (fun _ => ?_)
    refine lv_aload_n hx hb dM_keep_8 rfl (lv_at hl 0 rfl) ?_
    refine mget_0_9 hx hb hts inM hown hC hP (hts _ wM_f29) dM_keep_9 ?_
    refine lv_iload_n hx hb dM_keep_12 rfl (lv_at hl 1 rfl) ?_
    refine lv_aload_n hx hb dM_keep_13 rfl (lv_at hl 0 rfl) ?_
    refine mget_0_8 hx hb hts inM hown hC hP (hts _ wM_f26) dM_keep_14 ?_
    refine lv_iload_n hx hb dM_keep_17 rfl (lv_at hl 1 rfl) ?_
    refine mald_5 hx hb hC hP (vin_c (by decide)) dM_keep_18 ?_
    refine mast_6 hx hb hC hP hS (vin_c (by decide)) dM_keep_19 (fun σ18 H locs e18 hP hS => ?_)
    have hE := hE.trans (bd_e e18)
    have hB : MB σ18 := by rw [e18]; exact hB
    refine lv_iinc (k := 1) (v := 9) (lv' := [(1, .int 9), (0, .ref (q 0))]) hx hb dM_keep_20 hl rfl (by decide) (by decide) rfl (fun ls hl => ?_)
    refine lv_goto (tgt := 2) hx hb dM_keep_23 rfl ?_
    have hl := lv_sub hl [1, 0] rfl
    exact b2_9 _ _ _ _ hE hl hP hB hS
  have b2_7 : ∀ (H : Heap) (locs : List Loc) (ls : Array Slot) (σ : St), m_keep σ0 = m_keep_2_7 σ → lv_has ls 2 [(0, .ref (q 0)), (1, .int 7)] → va_P D vwCl (wsM q cA σ) H → MB σ → va_S (MA q) s.heap H locs → W p l e (headSpec wsM_keep { frames := 0, cells := 0, slots := 0, locals := 0 }).room s m ([.ref (q 0)] : List Value).toArray below meth c H locs 0 0 (MQ below (va_Qv (fun u => u = m_keep σ0) (MPost D q cA) (MA q)) ([.ref (q 0)] : List Value).toArray s 0 0 (MA q)) (F0 m 2 ls []) := by
    intro H locs ls σ hE hl hP hB hS
    refine lv_iload_n hx hb dM_keep_2 rfl (lv_at hl 1 rfl) ?_
    refine lv_bipush (v := 12) hx hb dM_keep_3 (by decide) ?_
    refine lv_icmp_ge (tgt := 26) hx hb dM_keep_5 rfl (fun h15 => absurd h15 (by decide)) (fun _ => ?_)
    refine lv_aload_n hx hb dM_keep_8 rfl (lv_at hl 0 rfl) ?_
    refine mget_0_9 hx hb hts inM hown hC hP (hts _ wM_f29) dM_keep_9 ?_
    refine lv_iload_n hx hb dM_keep_12 rfl (lv_at hl 1 rfl) ?_
    refine lv_aload_n hx hb dM_keep_13 rfl (lv_at hl 0 rfl) ?_
    refine mget_0_8 hx hb hts inM hown hC hP (hts _ wM_f26) dM_keep_14 ?_
    refine lv_iload_n hx hb dM_keep_17 rfl (lv_at hl 1 rfl) ?_
    refine mald_5 hx hb hC hP (vin_c (by decide)) dM_keep_18 ?_
    refine mast_6 hx hb hC hP hS (vin_c (by decide)) dM_keep_19 (fun σ16 H locs e16 hP hS => ?_)
    have hE := hE.trans (bd_e e16)
    have hB : MB σ16 := by rw [e16]; exact hB
    refine lv_iinc (k := 1) (v := 8) (lv' := [(1, .int 8), (0, .ref (q 0))]) hx hb dM_keep_20 hl rfl (by decide) (by decide) rfl (fun ls hl => ?_)
    refine lv_goto (tgt := 2) hx hb dM_keep_23 rfl ?_
    have hl := lv_sub hl [1, 0] rfl
    exact b2_8 _ _ _ _ hE hl hP hB hS
  have b2_6 : ∀ (H : Heap) (locs : List Loc) (ls : Array Slot) (σ : St), m_keep σ0 = m_keep_2_6 σ → lv_has ls 2 [(0, .ref (q 0)), (1, .int 6)] → va_P D vwCl (wsM q cA σ) H → MB σ → va_S (MA q) s.heap H locs → W p l e (headSpec wsM_keep { frames := 0, cells := 0, slots := 0, locals := 0 }).room s m ([.ref (q 0)] : List Value).toArray below meth c H locs 0 0 (MQ below (va_Qv (fun u => u = m_keep σ0) (MPost D q cA) (MA q)) ([.ref (q 0)] : List Value).toArray s 0 0 (MA q)) (F0 m 2 ls []) := by
    intro H locs ls σ hE hl hP hB hS
    refine lv_iload_n hx hb dM_keep_2 rfl (lv_at hl 1 rfl) ?_
    refine lv_bipush (v := 12) hx hb dM_keep_3 (by decide) ?_
    refine lv_icmp_ge (tgt := 26) hx hb dM_keep_5 rfl (fun h13 => absurd h13 (by decide)) (fun _ => ?_)
    refine lv_aload_n hx hb dM_keep_8 rfl (lv_at hl 0 rfl) ?_
    refine mget_0_9 hx hb hts inM hown hC hP (hts _ wM_f29) dM_keep_9 ?_
    refine lv_iload_n hx hb dM_keep_12 rfl (lv_at hl 1 rfl) ?_
    refine lv_aload_n hx hb dM_keep_13 rfl (lv_at hl 0 rfl) ?_
    refine mget_0_8 hx hb hts inM hown hC hP (hts _ wM_f26) dM_keep_14 ?_
    refine lv_iload_n hx hb dM_keep_17 rfl (lv_at hl 1 rfl) ?_
    refine mald_5 hx hb hC hP (vin_c (by decide)) dM_keep_18 ?_
    refine mast_6 hx hb hC hP hS (vin_c (by decide)) dM_keep_19 (fun σ14 H locs e14 hP hS => ?_)
    have hE := hE.trans (bd_e e14)
    have hB : MB σ14 := by rw [e14]; exact hB
    refine lv_iinc (k := 1) (v := 7) (lv' := [(1, .int 7), (0, .ref (q 0))]) hx hb dM_keep_20 hl rfl (by decide) (by decide) rfl (fun ls hl => ?_)
    refine lv_goto (tgt := 2) hx hb dM_keep_23 rfl ?_
    have hl := lv_sub hl [1, 0] rfl
    exact b2_7 _ _ _ _ hE hl hP hB hS
  have b2_5 : ∀ (H : Heap) (locs : List Loc) (ls : Array Slot) (σ : St), m_keep σ0 = m_keep_2_5 σ → lv_has ls 2 [(0, .ref (q 0)), (1, .int 5)] → va_P D vwCl (wsM q cA σ) H → MB σ → va_S (MA q) s.heap H locs → W p l e (headSpec wsM_keep { frames := 0, cells := 0, slots := 0, locals := 0 }).room s m ([.ref (q 0)] : List Value).toArray below meth c H locs 0 0 (MQ below (va_Qv (fun u => u = m_keep σ0) (MPost D q cA) (MA q)) ([.ref (q 0)] : List Value).toArray s 0 0 (MA q)) (F0 m 2 ls []) := by
    intro H locs ls σ hE hl hP hB hS
    refine lv_iload_n hx hb dM_keep_2 rfl (lv_at hl 1 rfl) ?_
    refine lv_bipush (v := 12) hx hb dM_keep_3 (by decide) ?_
    refine lv_icmp_ge (tgt := 26) hx hb dM_keep_5 rfl (fun h11 => absurd h11 (by decide)) (fun _ => ?_)
    refine lv_aload_n hx hb dM_keep_8 rfl (lv_at hl 0 rfl) ?_
    refine mget_0_9 hx hb hts inM hown hC hP (hts _ wM_f29) dM_keep_9 ?_
    refine lv_iload_n hx hb dM_keep_12 rfl (lv_at hl 1 rfl) ?_
    refine lv_aload_n hx hb dM_keep_13 rfl (lv_at hl 0 rfl) ?_
    refine mget_0_8 hx hb hts inM hown hC hP (hts _ wM_f26) dM_keep_14 ?_
    refine lv_iload_n hx hb dM_keep_17 rfl (lv_at hl 1 rfl) ?_
    refine mald_5 hx hb hC hP (vin_c (by decide)) dM_keep_18 ?_
    refine mast_6 hx hb hC hP hS (vin_c (by decide)) dM_keep_19 (fun σ12 H locs e12 hP hS => ?_)
    have hE := hE.trans (bd_e e12)
    have hB : MB σ12 := by rw [e12]; exact hB
    refine lv_iinc (k := 1) (v := 6) (lv' := [(1, .int 6), (0, .ref (q 0))]) hx hb dM_keep_20 hl rfl (by decide) (by decide) rfl (fun ls hl => ?_)
    refine lv_goto (tgt := 2) hx hb dM_keep_23 rfl ?_
    have hl := lv_sub hl [1, 0] rfl
    exact b2_6 _ _ _ _ hE hl hP hB hS
  have b2_4 : ∀ (H : Heap) (locs : List Loc) (ls : Array Slot) (σ : St), m_keep σ0 = m_keep_2_4 σ → lv_has ls 2 [(0, .ref (q 0)), (1, .int 4)] → va_P D vwCl (wsM q cA σ) H → MB σ → va_S (MA q) s.heap H locs → W p l e (headSpec wsM_keep { frames := 0, cells := 0, slots := 0, locals := 0 }).room s m ([.ref (q 0)] : List Value).toArray below meth c H locs 0 0 (MQ below (va_Qv (fun u => u = m_keep σ0) (MPost D q cA) (MA q)) ([.ref (q 0)] : List Value).toArray s 0 0 (MA q)) (F0 m 2 ls []) := by
    intro H locs ls σ hE hl hP hB hS
    refine lv_iload_n hx hb dM_keep_2 rfl (lv_at hl 1 rfl) ?_
    refine lv_bipush (v := 12) hx hb dM_keep_3 (by decide) ?_
    refine lv_icmp_ge (tgt := 26) hx hb dM_keep_5 rfl (fun h9 => absurd h9 (by decide)) (fun _ => ?_)
    refine lv_aload_n hx hb dM_keep_8 rfl (lv_at hl 0 rfl) ?_
    refine mget_0_9 hx hb hts inM hown hC hP (hts _ wM_f29) dM_keep_9 ?_
    refine lv_iload_n hx hb dM_keep_12 rfl (lv_at hl 1 rfl) ?_
    refine lv_aload_n hx hb dM_keep_13 rfl (lv_at hl 0 rfl) ?_
    refine mget_0_8 hx hb hts inM hown hC hP (hts _ wM_f26) dM_keep_14 ?_
    refine lv_iload_n hx hb dM_keep_17 rfl (lv_at hl 1 rfl) ?_
    refine mald_5 hx hb hC hP (vin_c (by decide)) dM_keep_18 ?_
    refine mast_6 hx hb hC hP hS (vin_c (by decide)) dM_keep_19 (fun σ10 H locs e10 hP hS => ?_)
    have hE := hE.trans (bd_e e10)
    have hB : MB σ10 := by rw [e10]; exact hB
    refine lv_iinc (k := 1) (v := 5) (lv' := [(1, .int 5), (0, .ref (q 0))]) hx hb dM_keep_20 hl rfl (by decide) (by decide) rfl (fun ls hl => ?_)
    refine lv_goto (tgt := 2) hx hb dM_keep_23 rfl ?_
    have hl := lv_sub hl [1, 0] rfl
    exact b2_5 _ _ _ _ hE hl hP hB hS
  have b2_3 : ∀ (H : Heap) (locs : List Loc) (ls : Array Slot) (σ : St), m_keep σ0 = m_keep_2_3 σ → lv_has ls 2 [(0, .ref (q 0)), (1, .int 3)] → va_P D vwCl (wsM q cA σ) H → MB σ → va_S (MA q) s.heap H locs → W p l e (headSpec wsM_keep { frames := 0, cells := 0, slots := 0, locals := 0 }).room s m ([.ref (q 0)] : List Value).toArray below meth c H locs 0 0 (MQ below (va_Qv (fun u => u = m_keep σ0) (MPost D q cA) (MA q)) ([.ref (q 0)] : List Value).toArray s 0 0 (MA q)) (F0 m 2 ls []) := by
    intro H locs ls σ hE hl hP hB hS
    refine lv_iload_n hx hb dM_keep_2 rfl (lv_at hl 1 rfl) ?_
    refine lv_bipush (v := 12) hx hb dM_keep_3 (by decide) ?_
    refine lv_icmp_ge (tgt := 26) hx hb dM_keep_5 rfl (fun h7 => absurd h7 (by decide)) (fun _ => ?_)
    refine lv_aload_n hx hb dM_keep_8 rfl (lv_at hl 0 rfl) ?_
    refine mget_0_9 hx hb hts inM hown hC hP (hts _ wM_f29) dM_keep_9 ?_
    refine lv_iload_n hx hb dM_keep_12 rfl (lv_at hl 1 rfl) ?_
    refine lv_aload_n hx hb dM_keep_13 rfl (lv_at hl 0 rfl) ?_
    refine mget_0_8 hx hb hts inM hown hC hP (hts _ wM_f26) dM_keep_14 ?_
    refine lv_iload_n hx hb dM_keep_17 rfl (lv_at hl 1 rfl) ?_
    refine mald_5 hx hb hC hP (vin_c (by decide)) dM_keep_18 ?_
    refine mast_6 hx hb hC hP hS (vin_c (by decide)) dM_keep_19 (fun σ8 H locs e8 hP hS => ?_)
    have hE := hE.trans (bd_e e8)
    have hB : MB σ8 := by rw [e8]; exact hB
    refine lv_iinc (k := 1) (v := 4) (lv' := [(1, .int 4), (0, .ref (q 0))]) hx hb dM_keep_20 hl rfl (by decide) (by decide) rfl (fun ls hl => ?_)
    refine lv_goto (tgt := 2) hx hb dM_keep_23 rfl ?_
    have hl := lv_sub hl [1, 0] rfl
    exact b2_4 _ _ _ _ hE hl hP hB hS
  have b2_2 : ∀ (H : Heap) (locs : List Loc) (ls : Array Slot) (σ : St), m_keep σ0 = m_keep_2_2 σ → lv_has ls 2 [(0, .ref (q 0)), (1, .int 2)] → va_P D vwCl (wsM q cA σ) H → MB σ → va_S (MA q) s.heap H locs → W p l e (headSpec wsM_keep { frames := 0, cells := 0, slots := 0, locals := 0 }).room s m ([.ref (q 0)] : List Value).toArray below meth c H locs 0 0 (MQ below (va_Qv (fun u => u = m_keep σ0) (MPost D q cA) (MA q)) ([.ref (q 0)] : List Value).toArray s 0 0 (MA q)) (F0 m 2 ls []) := by
    intro H locs ls σ hE hl hP hB hS
    refine lv_iload_n hx hb dM_keep_2 rfl (lv_at hl 1 rfl) ?_
    refine lv_bipush (v := 12) hx hb dM_keep_3 (by decide) ?_
    refine lv_icmp_ge (tgt := 26) hx hb dM_keep_5 rfl (fun h5 => absurd h5 (by decide)) (fun _ => ?_)
    refine lv_aload_n hx hb dM_keep_8 rfl (lv_at hl 0 rfl) ?_
    refine mget_0_9 hx hb hts inM hown hC hP (hts _ wM_f29) dM_keep_9 ?_
    refine lv_iload_n hx hb dM_keep_12 rfl (lv_at hl 1 rfl) ?_
    refine lv_aload_n hx hb dM_keep_13 rfl (lv_at hl 0 rfl) ?_
    refine mget_0_8 hx hb hts inM hown hC hP (hts _ wM_f26) dM_keep_14 ?_
    refine lv_iload_n hx hb dM_keep_17 rfl (lv_at hl 1 rfl) ?_
    refine mald_5 hx hb hC hP (vin_c (by decide)) dM_keep_18 ?_
    refine mast_6 hx hb hC hP hS (vin_c (by decide)) dM_keep_19 (fun σ6 H locs e6 hP hS => ?_)
    have hE := hE.trans (bd_e e6)
    have hB : MB σ6 := by rw [e6]; exact hB
    refine lv_iinc (k := 1) (v := 3) (lv' := [(1, .int 3), (0, .ref (q 0))]) hx hb dM_keep_20 hl rfl (by decide) (by decide) rfl (fun ls hl => ?_)
    refine lv_goto (tgt := 2) hx hb dM_keep_23 rfl ?_
    have hl := lv_sub hl [1, 0] rfl
    exact b2_3 _ _ _ _ hE hl hP hB hS
  have b2_1 : ∀ (H : Heap) (locs : List Loc) (ls : Array Slot) (σ : St), m_keep σ0 = m_keep_2_1 σ → lv_has ls 2 [(0, .ref (q 0)), (1, .int 1)] → va_P D vwCl (wsM q cA σ) H → MB σ → va_S (MA q) s.heap H locs → W p l e (headSpec wsM_keep { frames := 0, cells := 0, slots := 0, locals := 0 }).room s m ([.ref (q 0)] : List Value).toArray below meth c H locs 0 0 (MQ below (va_Qv (fun u => u = m_keep σ0) (MPost D q cA) (MA q)) ([.ref (q 0)] : List Value).toArray s 0 0 (MA q)) (F0 m 2 ls []) := by
    intro H locs ls σ hE hl hP hB hS
    refine lv_iload_n hx hb dM_keep_2 rfl (lv_at hl 1 rfl) ?_
    refine lv_bipush (v := 12) hx hb dM_keep_3 (by decide) ?_
    refine lv_icmp_ge (tgt := 26) hx hb dM_keep_5 rfl (fun h3 => absurd h3 (by decide)) (fun _ => ?_)
    refine lv_aload_n hx hb dM_keep_8 rfl (lv_at hl 0 rfl) ?_
    refine mget_0_9 hx hb hts inM hown hC hP (hts _ wM_f29) dM_keep_9 ?_
    refine lv_iload_n hx hb dM_keep_12 rfl (lv_at hl 1 rfl) ?_
    refine lv_aload_n hx hb dM_keep_13 rfl (lv_at hl 0 rfl) ?_
    refine mget_0_8 hx hb hts inM hown hC hP (hts _ wM_f26) dM_keep_14 ?_
    refine lv_iload_n hx hb dM_keep_17 rfl (lv_at hl 1 rfl) ?_
    refine mald_5 hx hb hC hP (vin_c (by decide)) dM_keep_18 ?_
    refine mast_6 hx hb hC hP hS (vin_c (by decide)) dM_keep_19 (fun σ4 H locs e4 hP hS => ?_)
    have hE := hE.trans (bd_e e4)
    have hB : MB σ4 := by rw [e4]; exact hB
    refine lv_iinc (k := 1) (v := 2) (lv' := [(1, .int 2), (0, .ref (q 0))]) hx hb dM_keep_20 hl rfl (by decide) (by decide) rfl (fun ls hl => ?_)
    refine lv_goto (tgt := 2) hx hb dM_keep_23 rfl ?_
    have hl := lv_sub hl [1, 0] rfl
    exact b2_2 _ _ _ _ hE hl hP hB hS
  have b2_0 : ∀ (H : Heap) (locs : List Loc) (ls : Array Slot) (σ : St), m_keep σ0 = m_keep_2_0 σ → lv_has ls 2 [(0, .ref (q 0)), (1, .int 0)] → va_P D vwCl (wsM q cA σ) H → MB σ → va_S (MA q) s.heap H locs → W p l e (headSpec wsM_keep { frames := 0, cells := 0, slots := 0, locals := 0 }).room s m ([.ref (q 0)] : List Value).toArray below meth c H locs 0 0 (MQ below (va_Qv (fun u => u = m_keep σ0) (MPost D q cA) (MA q)) ([.ref (q 0)] : List Value).toArray s 0 0 (MA q)) (F0 m 2 ls []) := by
    intro H locs ls σ hE hl hP hB hS
    refine lv_iload_n hx hb dM_keep_2 rfl (lv_at hl 1 rfl) ?_
    refine lv_bipush (v := 12) hx hb dM_keep_3 (by decide) ?_
    refine lv_icmp_ge (tgt := 26) hx hb dM_keep_5 rfl (fun h1 => absurd h1 (by decide)) (fun _ => ?_)
    refine lv_aload_n hx hb dM_keep_8 rfl (lv_at hl 0 rfl) ?_
    refine mget_0_9 hx hb hts inM hown hC hP (hts _ wM_f29) dM_keep_9 ?_
    refine lv_iload_n hx hb dM_keep_12 rfl (lv_at hl 1 rfl) ?_
    refine lv_aload_n hx hb dM_keep_13 rfl (lv_at hl 0 rfl) ?_
    refine mget_0_8 hx hb hts inM hown hC hP (hts _ wM_f26) dM_keep_14 ?_
    refine lv_iload_n hx hb dM_keep_17 rfl (lv_at hl 1 rfl) ?_
    refine mald_5 hx hb hC hP (vin_c (by decide)) dM_keep_18 ?_
    refine mast_6 hx hb hC hP hS (vin_c (by decide)) dM_keep_19 (fun σ2 H locs e2 hP hS => ?_)
    have hE := hE.trans (bd_e e2)
    have hB : MB σ2 := by rw [e2]; exact hB
    refine lv_iinc (k := 1) (v := 1) (lv' := [(1, .int 1), (0, .ref (q 0))]) hx hb dM_keep_20 hl rfl (by decide) (by decide) rfl (fun ls hl => ?_)
    refine lv_goto (tgt := 2) hx hb dM_keep_23 rfl ?_
    have hl := lv_sub hl [1, 0] rfl
    exact b2_1 _ _ _ _ hE hl hP hB hS
  refine lv_iconst (v := 0) hx hb dM_keep_0 (by decide) ?_
  refine lv_istore_n (lv' := [(1, .int 0), (0, .ref (q 0))]) hx hb dM_keep_1 rfl hl (by decide) rfl (fun ls hl => ?_)
  have hl := lv_sub hl [1, 0] rfl
  exact b2_0 _ _ _ _ hE hl hP hB hS
set_option maxRecDepth 100000 in
set_option maxHeartbeats 4000000 in
theorem c_m_takeBack (l : Launch) (D : va_G) (q : Nat → Nat) (cA : ClassId) (σ0 : St) : Met l yM_takeBack wsM_takeBack { frames := 0, cells := 0, slots := 0, locals := 0 } (va_Pc [.ref (q 0)] (MPre D q cA σ0)) (va_Qv (fun u => u = m_takeBack σ0) (MPost D q cA) (MA q)) 0 0 (MA q) := by
  refine Met.ofW (cc := cM_takeBack) (maxL := 2) (ret := none) (by decide) rfl ?_
  intro p e s m args below meth c s₁ B hml hv
  obtain ⟨rfl, hP, hB, hC⟩ := hv
  have hx := B.exec
  have hb := B.bytes
  have hr := B.returns
  have hts : ∀ w ∈ gw, w.before ([.ref (q 0)] : List Value).toArray s = true := fun w h => atoms_spec (ws := wsM_takeBack) B.pre w (List.mem_cons_of_mem _ h)
  have hown : s.vm.findClass RM = some m.cls := findClass_of_methodNamed B.named
  have hlocks := B.notSynchronized
  have hS : va_S (MA q) s.heap s.heap [] := va_S.rf
  have hl := lv_entry ([.ref (q 0)]) (n := 2) (Nat.le_of_ble_eq_true rfl)
  rw [lg_entry_eq]
  generalize (lg_sl ([.ref (q 0)]) ++ List.replicate (2 - (lg_sl ([.ref (q 0)])).length) Slot.unset).toArray = ls at hl ⊢
  have hl : lv_has ls 2 [(0, .ref (q 0))] := hl
  have hE : m_takeBack σ0 = m_takeBack σ0 := rfl
  have b2_12 : ∀ (H : Heap) (locs : List Loc) (ls : Array Slot) (σ : St), m_takeBack σ0 = m_takeBack_2_12 σ → lv_has ls 2 [(0, .ref (q 0)), (1, .int 12)] → va_P D vwCl (wsM q cA σ) H → MB σ → va_S (MA q) s.heap H locs → W p l e (headSpec wsM_takeBack { frames := 0, cells := 0, slots := 0, locals := 0 }).room s m ([.ref (q 0)] : List Value).toArray below meth c H locs 0 0 (MQ below (va_Qv (fun u => u = m_takeBack σ0) (MPost D q cA) (MA q)) ([.ref (q 0)] : List Value).toArray s 0 0 (MA q)) (F0 m 2 ls []) := by
    intro H locs ls σ hE hl hP hB hS
    refine lv_iload_n hx hb dM_takeBack_2 rfl (lv_at hl 1 rfl) ?_
    refine lv_bipush (v := 12) hx hb dM_takeBack_3 (by decide) ?_
    refine lv_icmp_ge (tgt := 26) hx hb dM_takeBack_5 rfl (fun _ => ?_) (fun h25 => absurd (by decide) h25)
    exact W.vret hx hb hr (fun t ht hW => ⟨⟨σ, rfl, hE.symm, ⟨by rw [ht]; exact hP, hB⟩⟩, hS.F ht⟩) hS.2.2 dM_takeBack_26
  have b2_11 : ∀ (H : Heap) (locs : List Loc) (ls : Array Slot) (σ : St), m_takeBack σ0 = m_takeBack_2_11 σ → lv_has ls 2 [(0, .ref (q 0)), (1, .int 11)] → va_P D vwCl (wsM q cA σ) H → MB σ → va_S (MA q) s.heap H locs → W p l e (headSpec wsM_takeBack { frames := 0, cells := 0, slots := 0, locals := 0 }).room s m ([.ref (q 0)] : List Value).toArray below meth c H locs 0 0 (MQ below (va_Qv (fun u => u = m_takeBack σ0) (MPost D q cA) (MA q)) ([.ref (q 0)] : List Value).toArray s 0 0 (MA q)) (F0 m 2 ls []) := by
    intro H locs ls σ hE hl hP hB hS
    refine lv_iload_n hx hb dM_takeBack_2 rfl (lv_at hl 1 rfl) ?_
    refine lv_bipush (v := 12) hx hb dM_takeBack_3 (by decide) ?_
    refine lv_icmp_ge (tgt := 26) hx hb dM_takeBack_5 rfl (fun h23 => absurd h23 (by decide)) (fun _ => ?_)
    refine lv_aload_n hx hb dM_takeBack_8 rfl (lv_at hl 0 rfl) ?_
    refine mget_0_8 hx hb hts inM hown hC hP (hts _ wM_f26) dM_takeBack_9 ?_
    refine lv_iload_n hx hb dM_takeBack_12 rfl (lv_at hl 1 rfl) ?_
    refine lv_aload_n hx hb dM_takeBack_13 rfl (lv_at hl 0 rfl) ?_
    refine mget_0_9 hx hb hts inM hown hC hP (hts _ wM_f29) dM_takeBack_14 ?_
    refine lv_iload_n hx hb dM_takeBack_17 rfl (lv_at hl 1 rfl) ?_
    refine mald_6 hx hb hC hP (vin_c (by decide)) dM_takeBack_18 ?_
    refine mast_5 hx hb hC hP hS (vin_c (by decide)) dM_takeBack_19 (fun σ24 H locs e24 hP hS => ?_)
    have hE := hE.trans (bd_e e24)
    have hB : MB σ24 := by rw [e24]; exact hB
    refine lv_iinc (k := 1) (v := 12) (lv' := [(1, .int 12), (0, .ref (q 0))]) hx hb dM_takeBack_20 hl rfl (by decide) (by decide) rfl (fun ls hl => ?_)
    refine lv_goto (tgt := 2) hx hb dM_takeBack_23 rfl ?_
    have hl := lv_sub hl [1, 0] rfl
    exact b2_12 _ _ _ _ hE hl hP hB hS
  have b2_10 : ∀ (H : Heap) (locs : List Loc) (ls : Array Slot) (σ : St), m_takeBack σ0 = m_takeBack_2_10 σ → lv_has ls 2 [(0, .ref (q 0)), (1, .int 10)] → va_P D vwCl (wsM q cA σ) H → MB σ → va_S (MA q) s.heap H locs → W p l e (headSpec wsM_takeBack { frames := 0, cells := 0, slots := 0, locals := 0 }).room s m ([.ref (q 0)] : List Value).toArray below meth c H locs 0 0 (MQ below (va_Qv (fun u => u = m_takeBack σ0) (MPost D q cA) (MA q)) ([.ref (q 0)] : List Value).toArray s 0 0 (MA q)) (F0 m 2 ls []) := by
    intro H locs ls σ hE hl hP hB hS
    refine lv_iload_n hx hb dM_takeBack_2 rfl (lv_at hl 1 rfl) ?_
    refine lv_bipush (v := 12) hx hb dM_takeBack_3 (by decide) ?_
    refine lv_icmp_ge (tgt := 26) hx hb dM_takeBack_5 rfl (fun h21 => absurd h21 (by decide)) (fun _ => ?_)
    refine lv_aload_n hx hb dM_takeBack_8 rfl (lv_at hl 0 rfl) ?_
    refine mget_0_8 hx hb hts inM hown hC hP (hts _ wM_f26) dM_takeBack_9 ?_
    refine lv_iload_n hx hb dM_takeBack_12 rfl (lv_at hl 1 rfl) ?_
    refine lv_aload_n hx hb dM_takeBack_13 rfl (lv_at hl 0 rfl) ?_
    refine mget_0_9 hx hb hts inM hown hC hP (hts _ wM_f29) dM_takeBack_14 ?_
    refine lv_iload_n hx hb dM_takeBack_17 rfl (lv_at hl 1 rfl) ?_
    refine mald_6 hx hb hC hP (vin_c (by decide)) dM_takeBack_18 ?_
    refine mast_5 hx hb hC hP hS (vin_c (by decide)) dM_takeBack_19 (fun σ22 H locs e22 hP hS => ?_)
    have hE := hE.trans (bd_e e22)
    have hB : MB σ22 := by rw [e22]; exact hB
    refine lv_iinc (k := 1) (v := 11) (lv' := [(1, .int 11), (0, .ref (q 0))]) hx hb dM_takeBack_20 hl rfl (by decide) (by decide) rfl (fun ls hl => ?_)
    refine lv_goto (tgt := 2) hx hb dM_takeBack_23 rfl ?_
    have hl := lv_sub hl [1, 0] rfl
    exact b2_11 _ _ _ _ hE hl hP hB hS
  have b2_9 : ∀ (H : Heap) (locs : List Loc) (ls : Array Slot) (σ : St), m_takeBack σ0 = m_takeBack_2_9 σ → lv_has ls 2 [(0, .ref (q 0)), (1, .int 9)] → va_P D vwCl (wsM q cA σ) H → MB σ → va_S (MA q) s.heap H locs → W p l e (headSpec wsM_takeBack { frames := 0, cells := 0, slots := 0, locals := 0 }).room s m ([.ref (q 0)] : List Value).toArray below meth c H locs 0 0 (MQ below (va_Qv (fun u => u = m_takeBack σ0) (MPost D q cA) (MA q)) ([.ref (q 0)] : List Value).toArray s 0 0 (MA q)) (F0 m 2 ls []) := by
    intro H locs ls σ hE hl hP hB hS
    refine lv_iload_n hx hb dM_takeBack_2 rfl (lv_at hl 1 rfl) ?_
    refine lv_bipush (v := 12) hx hb dM_takeBack_3 (by decide) ?_
    refine lv_icmp_ge (tgt := 26) hx hb dM_takeBack_5 rfl (fun h19 => absurd h19 (by decide)) (fun _ => ?_)
    refine lv_aload_n hx hb dM_takeBack_8 rfl (lv_at hl 0 rfl) ?_
    refine mget_0_8 hx hb hts inM hown hC hP (hts _ wM_f26) dM_takeBack_9 ?_
    refine lv_iload_n hx hb dM_takeBack_12 rfl (lv_at hl 1 rfl) ?_
    refine lv_aload_n hx hb dM_takeBack_13 rfl (lv_at hl 0 rfl) ?_
    refine mget_0_9 hx hb hts inM hown hC hP (hts _ wM_f29) dM_takeBack_14 ?_
    refine lv_iload_n hx hb dM_takeBack_17 rfl (lv_at hl 1 rfl) ?_
    refine mald_6 hx hb hC hP (vin_c (by decide)) dM_takeBack_18 ?_
    refine mast_5 hx hb hC hP hS (vin_c (by decide)) dM_takeBack_19 (fun σ20 H locs e20 hP hS => ?_)
    have hE := hE.trans (bd_e e20)
    have hB : MB σ20 := by rw [e20]; exact hB
    refine lv_iinc (k := 1) (v := 10) (lv' := [(1, .int 10), (0, .ref (q 0))]) hx hb dM_takeBack_20 hl rfl (by decide) (by decide) rfl (fun ls hl => ?_)
    refine lv_goto (tgt := 2) hx hb dM_takeBack_23 rfl ?_
    have hl := lv_sub hl [1, 0] rfl
    exact b2_10 _ _ _ _ hE hl hP hB hS
  have b2_8 : ∀ (H : Heap) (locs : List Loc) (ls : Array Slot) (σ : St), m_takeBack σ0 = m_takeBack_2_8 σ → lv_has ls 2 [(0, .ref (q 0)), (1, .int 8)] → va_P D vwCl (wsM q cA σ) H → MB σ → va_S (MA q) s.heap H locs → W p l e (headSpec wsM_takeBack { frames := 0, cells := 0, slots := 0, locals := 0 }).room s m ([.ref (q 0)] : List Value).toArray below meth c H locs 0 0 (MQ below (va_Qv (fun u => u = m_takeBack σ0) (MPost D q cA) (MA q)) ([.ref (q 0)] : List Value).toArray s 0 0 (MA q)) (F0 m 2 ls []) := by
    intro H locs ls σ hE hl hP hB hS
    refine lv_iload_n hx hb dM_takeBack_2 rfl (lv_at hl 1 rfl) ?_
    refine lv_bipush (v := 12) hx hb dM_takeBack_3 (by decide) ?_
    refine lv_icmp_ge (tgt := 26) hx hb dM_takeBack_5 rfl (fun h17 => absurd h17 (by decide)) (fun _ => ?_)
    refine lv_aload_n hx hb dM_takeBack_8 rfl (lv_at hl 0 rfl) ?_
    refine mget_0_8 hx hb hts inM hown hC hP (hts _ wM_f26) dM_takeBack_9 ?_
    refine lv_iload_n hx hb dM_takeBack_12 rfl (lv_at hl 1 rfl) ?_
    refine lv_aload_n hx hb dM_takeBack_13 rfl (lv_at hl 0 rfl) ?_
    refine mget_0_9 hx hb hts inM hown hC hP (hts _ wM_f29) dM_takeBack_14 ?_
    refine lv_iload_n hx hb dM_takeBack_17 rfl (lv_at hl 1 rfl) ?_
    refine mald_6 hx hb hC hP (vin_c (by decide)) dM_takeBack_18 ?_
    refine mast_5 hx hb hC hP hS (vin_c (by decide)) dM_takeBack_19 (fun σ18 H locs e18 hP hS => ?_)
    have hE := hE.trans (bd_e e18)
    have hB : MB σ18 := by rw [e18]; exact hB
    refine lv_iinc (k := 1) (v := 9) (lv' := [(1, .int 9), (0, .ref (q 0))]) hx hb dM_takeBack_20 hl rfl (by decide) (by decide) rfl (fun ls hl => ?_)
    refine lv_goto (tgt := 2) hx hb dM_takeBack_23 rfl ?_
    have hl := lv_sub hl [1, 0] rfl
    exact b2_9 _ _ _ _ hE hl hP hB hS
  have b2_7 : ∀ (H : Heap) (locs : List Loc) (ls : Array Slot) (σ : St), m_takeBack σ0 = m_takeBack_2_7 σ → lv_has ls 2 [(0, .ref (q 0)), (1, .int 7)] → va_P D vwCl (wsM q cA σ) H → MB σ → va_S (MA q) s.heap H locs → W p l e (headSpec wsM_takeBack { frames := 0, cells := 0, slots := 0, locals := 0 }).room s m ([.ref (q 0)] : List Value).toArray below meth c H locs 0 0 (MQ below (va_Qv (fun u => u = m_takeBack σ0) (MPost D q cA) (MA q)) ([.ref (q 0)] : List Value).toArray s 0 0 (MA q)) (F0 m 2 ls []) := by
    intro H locs ls σ hE hl hP hB hS
    refine lv_iload_n hx hb dM_takeBack_2 rfl (lv_at hl 1 rfl) ?_
    refine lv_bipush (v := 12) hx hb dM_takeBack_3 (by decide) ?_
    refine lv_icmp_ge (tgt := 26) hx hb dM_takeBack_5 rfl (fun h15 => absurd h15 (by decide)) (fun _ => ?_)
    refine lv_aload_n hx hb dM_takeBack_8 rfl (lv_at hl 0 rfl) ?_
    refine mget_0_8 hx hb hts inM hown hC hP (hts _ wM_f26) dM_takeBack_9 ?_
    refine lv_iload_n hx hb dM_takeBack_12 rfl (lv_at hl 1 rfl) ?_
    refine lv_aload_n hx hb dM_takeBack_13 rfl (lv_at hl 0 rfl) ?_
    refine mget_0_9 hx hb hts inM hown hC hP (hts _ wM_f29) dM_takeBack_14 ?_
    refine lv_iload_n hx hb dM_takeBack_17 rfl (lv_at hl 1 rfl) ?_
    refine mald_6 hx hb hC hP (vin_c (by decide)) dM_takeBack_18 ?_
    refine mast_5 hx hb hC hP hS (vin_c (by decide)) dM_takeBack_19 (fun σ16 H locs e16 hP hS => ?_)
    have hE := hE.trans (bd_e e16)
    have hB : MB σ16 := by rw [e16]; exact hB
    refine lv_iinc (k := 1) (v := 8) (lv' := [(1, .int 8), (0, .ref (q 0))]) hx hb dM_takeBack_20 hl rfl (by decide) (by decide) rfl (fun ls hl => ?_)
    refine lv_goto (tgt := 2) hx hb dM_takeBack_23 rfl ?_
    have hl := lv_sub hl [1, 0] rfl
    exact b2_8 _ _ _ _ hE hl hP hB hS
  have b2_6 : ∀ (H : Heap) (locs : List Loc) (ls : Array Slot) (σ : St), m_takeBack σ0 = m_takeBack_2_6 σ → lv_has ls 2 [(0, .ref (q 0)), (1, .int 6)] → va_P D vwCl (wsM q cA σ) H → MB σ → va_S (MA q) s.heap H locs → W p l e (headSpec wsM_takeBack { frames := 0, cells := 0, slots := 0, locals := 0 }).room s m ([.ref (q 0)] : List Value).toArray below meth c H locs 0 0 (MQ below (va_Qv (fun u => u = m_takeBack σ0) (MPost D q cA) (MA q)) ([.ref (q 0)] : List Value).toArray s 0 0 (MA q)) (F0 m 2 ls []) := by
    intro H locs ls σ hE hl hP hB hS
    refine lv_iload_n hx hb dM_takeBack_2 rfl (lv_at hl 1 rfl) ?_
    refine lv_bipush (v := 12) hx hb dM_takeBack_3 (by decide) ?_
    refine lv_icmp_ge (tgt := 26) hx hb dM_takeBack_5 rfl (fun h13 => absurd h13 (by decide)) (fun _ => ?_)
    refine lv_aload_n hx hb dM_takeBack_8 rfl (lv_at hl 0 rfl) ?_
    refine mget_0_8 hx hb hts inM hown hC hP (hts _ wM_f26) dM_takeBack_9 ?_
    refine lv_iload_n hx hb dM_takeBack_12 rfl (lv_at hl 1 rfl) ?_
    refine lv_aload_n hx hb dM_takeBack_13 rfl (lv_at hl 0 rfl) ?_
    refine mget_0_9 hx hb hts inM hown hC hP (hts _ wM_f29) dM_takeBack_14 ?_
    refine lv_iload_n hx hb dM_takeBack_17 rfl (lv_at hl 1 rfl) ?_
    refine mald_6 hx hb hC hP (vin_c (by decide)) dM_takeBack_18 ?_
    refine mast_5 hx hb hC hP hS (vin_c (by decide)) dM_takeBack_19 (fun σ14 H locs e14 hP hS => ?_)
    have hE := hE.trans (bd_e e14)
    have hB : MB σ14 := by rw [e14]; exact hB
    refine lv_iinc (k := 1) (v := 7) (lv' := [(1, .int 7), (0, .ref (q 0))]) hx hb dM_takeBack_20 hl rfl (by decide) (by decide) rfl (fun ls hl => ?_)
    refine lv_goto (tgt := 2) hx hb dM_takeBack_23 rfl ?_
    have hl := lv_sub hl [1, 0] rfl
    exact b2_7 _ _ _ _ hE hl hP hB hS
  have b2_5 : ∀ (H : Heap) (locs : List Loc) (ls : Array Slot) (σ : St), m_takeBack σ0 = m_takeBack_2_5 σ → lv_has ls 2 [(0, .ref (q 0)), (1, .int 5)] → va_P D vwCl (wsM q cA σ) H → MB σ → va_S (MA q) s.heap H locs → W p l e (headSpec wsM_takeBack { frames := 0, cells := 0, slots := 0, locals := 0 }).room s m ([.ref (q 0)] : List Value).toArray below meth c H locs 0 0 (MQ below (va_Qv (fun u => u = m_takeBack σ0) (MPost D q cA) (MA q)) ([.ref (q 0)] : List Value).toArray s 0 0 (MA q)) (F0 m 2 ls []) := by
    intro H locs ls σ hE hl hP hB hS
    refine lv_iload_n hx hb dM_takeBack_2 rfl (lv_at hl 1 rfl) ?_
    refine lv_bipush (v := 12) hx hb dM_takeBack_3 (by decide) ?_
    refine lv_icmp_ge (tgt := 26) hx hb dM_takeBack_5 rfl (fun h11 => absurd h11 (by decide)) (fun _ => ?_)
    refine lv_aload_n hx hb dM_takeBack_8 rfl (lv_at hl 0 rfl) ?_
    refine mget_0_8 hx hb hts inM hown hC hP (hts _ wM_f26) dM_takeBack_9 ?_
    refine lv_iload_n hx hb dM_takeBack_12 rfl (lv_at hl 1 rfl) ?_
    refine lv_aload_n hx hb dM_takeBack_13 rfl (lv_at hl 0 rfl) ?_
    refine mget_0_9 hx hb hts inM hown hC hP (hts _ wM_f29) dM_takeBack_14 ?_
    refine lv_iload_n hx hb dM_takeBack_17 rfl (lv_at hl 1 rfl) ?_
    refine mald_6 hx hb hC hP (vin_c (by decide)) dM_takeBack_18 ?_
    refine mast_5 hx hb hC hP hS (vin_c (by decide)) dM_takeBack_19 (fun σ12 H locs e12 hP hS => ?_)
    have hE := hE.trans (bd_e e12)
    have hB : MB σ12 := by rw [e12]; exact hB
    refine lv_iinc (k := 1) (v := 6) (lv' := [(1, .int 6), (0, .ref (q 0))]) hx hb dM_takeBack_20 hl rfl (by decide) (by decide) rfl (fun ls hl => ?_)
    refine lv_goto (tgt := 2) hx hb dM_takeBack_23 rfl ?_
    have hl := lv_sub hl [1, 0] rfl
    exact b2_6 _ _ _ _ hE hl hP hB hS
  have b2_4 : ∀ (H : Heap) (locs : List Loc) (ls : Array Slot) (σ : St), m_takeBack σ0 = m_takeBack_2_4 σ → lv_has ls 2 [(0, .ref (q 0)), (1, .int 4)] → va_P D vwCl (wsM q cA σ) H → MB σ → va_S (MA q) s.heap H locs → W p l e (headSpec wsM_takeBack { frames := 0, cells := 0, slots := 0, locals := 0 }).room s m ([.ref (q 0)] : List Value).toArray below meth c H locs 0 0 (MQ below (va_Qv (fun u => u = m_takeBack σ0) (MPost D q cA) (MA q)) ([.ref (q 0)] : List Value).toArray s 0 0 (MA q)) (F0 m 2 ls []) := by
    intro H locs ls σ hE hl hP hB hS
    refine lv_iload_n hx hb dM_takeBack_2 rfl (lv_at hl 1 rfl) ?_
    refine lv_bipush (v := 12) hx hb dM_takeBack_3 (by decide) ?_
    refine lv_icmp_ge (tgt := 26) hx hb dM_takeBack_5 rfl (fun h9 => absurd h9 (by decide)) (fun _ => ?_)
    refine lv_aload_n hx hb dM_takeBack_8 rfl (lv_at hl 0 rfl) ?_
    refine mget_0_8 hx hb hts inM hown hC hP (hts _ wM_f26) dM_takeBack_9 ?_
    refine lv_iload_n hx hb dM_takeBack_12 rfl (lv_at hl 1 rfl) ?_
    refine lv_aload_n hx hb dM_takeBack_13 rfl (lv_at hl 0 rfl) ?_
    refine mget_0_9 hx hb hts inM hown hC hP (hts _ wM_f29) dM_takeBack_14 ?_
    refine lv_iload_n hx hb dM_takeBack_17 rfl (lv_at hl 1 rfl) ?_
    refine mald_6 hx hb hC hP (vin_c (by decide)) dM_takeBack_18 ?_
    refine mast_5 hx hb hC hP hS (vin_c (by decide)) dM_takeBack_19 (fun σ10 H locs e10 hP hS => ?_)
    have hE := hE.trans (bd_e e10)
    have hB : MB σ10 := by rw [e10]; exact hB
    refine lv_iinc (k := 1) (v := 5) (lv' := [(1, .int 5), (0, .ref (q 0))]) hx hb dM_takeBack_20 hl rfl (by decide) (by decide) rfl (fun ls hl => ?_)
    refine lv_goto (tgt := 2) hx hb dM_takeBack_23 rfl ?_
    have hl := lv_sub hl [1, 0] rfl
    exact b2_5 _ _ _ _ hE hl hP hB hS
  have b2_3 : ∀ (H : Heap) (locs : List Loc) (ls : Array Slot) (σ : St), m_takeBack σ0 = m_takeBack_2_3 σ → lv_has ls 2 [(0, .ref (q 0)), (1, .int 3)] → va_P D vwCl (wsM q cA σ) H → MB σ → va_S (MA q) s.heap H locs → W p l e (headSpec wsM_takeBack { frames := 0, cells := 0, slots := 0, locals := 0 }).room s m ([.ref (q 0)] : List Value).toArray below meth c H locs 0 0 (MQ below (va_Qv (fun u => u = m_takeBack σ0) (MPost D q cA) (MA q)) ([.ref (q 0)] : List Value).toArray s 0 0 (MA q)) (F0 m 2 ls []) := by
    intro H locs ls σ hE hl hP hB hS
    refine lv_iload_n hx hb dM_takeBack_2 rfl (lv_at hl 1 rfl) ?_
    refine lv_bipush (v := 12) hx hb dM_takeBack_3 (by decide) ?_
    refine lv_icmp_ge (tgt := 26) hx hb dM_takeBack_5 rfl (fun h7 => absurd h7 (by decide)) (fun _ => ?_)
    refine lv_aload_n hx hb dM_takeBack_8 rfl (lv_at hl 0 rfl) ?_
    refine mget_0_8 hx hb hts inM hown hC hP (hts _ wM_f26) dM_takeBack_9 ?_
    refine lv_iload_n hx hb dM_takeBack_12 rfl (lv_at hl 1 rfl) ?_
    refine lv_aload_n hx hb dM_takeBack_13 rfl (lv_at hl 0 rfl) ?_
    refine mget_0_9 hx hb hts inM hown hC hP (hts _ wM_f29) dM_takeBack_14 ?_
    refine lv_iload_n hx hb dM_takeBack_17 rfl (lv_at hl 1 rfl) ?_
    refine mald_6 hx hb hC hP (vin_c (by decide)) dM_takeBack_18 ?_
    refine mast_5 hx hb hC hP hS (vin_c (by decide)) dM_takeBack_19 (fun σ8 H locs e8 hP hS => ?_)
    have hE := hE.trans (bd_e e8)
    have hB : MB σ8 := by rw [e8]; exact hB
    refine lv_iinc (k := 1) (v := 4) (lv' := [(1, .int 4), (0, .ref (q 0))]) hx hb dM_takeBack_20 hl rfl (by decide) (by decide) rfl (fun ls hl => ?_)
    refine lv_goto (tgt := 2) hx hb dM_takeBack_23 rfl ?_
    have hl := lv_sub hl [1, 0] rfl
    exact b2_4 _ _ _ _ hE hl hP hB hS
  have b2_2 : ∀ (H : Heap) (locs : List Loc) (ls : Array Slot) (σ : St), m_takeBack σ0 = m_takeBack_2_2 σ → lv_has ls 2 [(0, .ref (q 0)), (1, .int 2)] → va_P D vwCl (wsM q cA σ) H → MB σ → va_S (MA q) s.heap H locs → W p l e (headSpec wsM_takeBack { frames := 0, cells := 0, slots := 0, locals := 0 }).room s m ([.ref (q 0)] : List Value).toArray below meth c H locs 0 0 (MQ below (va_Qv (fun u => u = m_takeBack σ0) (MPost D q cA) (MA q)) ([.ref (q 0)] : List Value).toArray s 0 0 (MA q)) (F0 m 2 ls []) := by
    intro H locs ls σ hE hl hP hB hS
    refine lv_iload_n hx hb dM_takeBack_2 rfl (lv_at hl 1 rfl) ?_
    refine lv_bipush (v := 12) hx hb dM_takeBack_3 (by decide) ?_
    refine lv_icmp_ge (tgt := 26) hx hb dM_takeBack_5 rfl (fun h5 => absurd h5 (by decide)) (fun _ => ?_)
    refine lv_aload_n hx hb dM_takeBack_8 rfl (lv_at hl 0 rfl) ?_
    refine mget_0_8 hx hb hts inM hown hC hP (hts _ wM_f26) dM_takeBack_9 ?_
    refine lv_iload_n hx hb dM_takeBack_12 rfl (lv_at hl 1 rfl) ?_
    refine lv_aload_n hx hb dM_takeBack_13 rfl (lv_at hl 0 rfl) ?_
    refine mget_0_9 hx hb hts inM hown hC hP (hts _ wM_f29) dM_takeBack_14 ?_
    refine lv_iload_n hx hb dM_takeBack_17 rfl (lv_at hl 1 rfl) ?_
    refine mald_6 hx hb hC hP (vin_c (by decide)) dM_takeBack_18 ?_
    refine mast_5 hx hb hC hP hS (vin_c (by decide)) dM_takeBack_19 (fun σ6 H locs e6 hP hS => ?_)
    have hE := hE.trans (bd_e e6)
    have hB : MB σ6 := by rw [e6]; exact hB
    refine lv_iinc (k := 1) (v := 3) (lv' := [(1, .int 3), (0, .ref (q 0))]) hx hb dM_takeBack_20 hl rfl (by decide) (by decide) rfl (fun ls hl => ?_)
    refine lv_goto (tgt := 2) hx hb dM_takeBack_23 rfl ?_
    have hl := lv_sub hl [1, 0] rfl
    exact b2_3 _ _ _ _ hE hl hP hB hS
  have b2_1 : ∀ (H : Heap) (locs : List Loc) (ls : Array Slot) (σ : St), m_takeBack σ0 = m_takeBack_2_1 σ → lv_has ls 2 [(0, .ref (q 0)), (1, .int 1)] → va_P D vwCl (wsM q cA σ) H → MB σ → va_S (MA q) s.heap H locs → W p l e (headSpec wsM_takeBack { frames := 0, cells := 0, slots := 0, locals := 0 }).room s m ([.ref (q 0)] : List Value).toArray below meth c H locs 0 0 (MQ below (va_Qv (fun u => u = m_takeBack σ0) (MPost D q cA) (MA q)) ([.ref (q 0)] : List Value).toArray s 0 0 (MA q)) (F0 m 2 ls []) := by
    intro H locs ls σ hE hl hP hB hS
    refine lv_iload_n hx hb dM_takeBack_2 rfl (lv_at hl 1 rfl) ?_
    refine lv_bipush (v := 12) hx hb dM_takeBack_3 (by decide) ?_
    refine lv_icmp_ge (tgt := 26) hx hb dM_takeBack_5 rfl (fun h3 => absurd h3 (by decide)) (fun _ => ?_)
    refine lv_aload_n hx hb dM_takeBack_8 rfl (lv_at hl 0 rfl) ?_
    refine mget_0_8 hx hb hts inM hown hC hP (hts _ wM_f26) dM_takeBack_9 ?_
    refine lv_iload_n hx hb dM_takeBack_12 rfl (lv_at hl 1 rfl) ?_
    refine lv_aload_n hx hb dM_takeBack_13 rfl (lv_at hl 0 rfl) ?_
    refine mget_0_9 hx hb hts inM hown hC hP (hts _ wM_f29) dM_takeBack_14 ?_
    refine lv_iload_n hx hb dM_takeBack_17 rfl (lv_at hl 1 rfl) ?_
    refine mald_6 hx hb hC hP (vin_c (by decide)) dM_takeBack_18 ?_
    refine mast_5 hx hb hC hP hS (vin_c (by decide)) dM_takeBack_19 (fun σ4 H locs e4 hP hS => ?_)
    have hE := hE.trans (bd_e e4)
    have hB : MB σ4 := by rw [e4]; exact hB
    refine lv_iinc (k := 1) (v := 2) (lv' := [(1, .int 2), (0, .ref (q 0))]) hx hb dM_takeBack_20 hl rfl (by decide) (by decide) rfl (fun ls hl => ?_)
    refine lv_goto (tgt := 2) hx hb dM_takeBack_23 rfl ?_
    have hl := lv_sub hl [1, 0] rfl
    exact b2_2 _ _ _ _ hE hl hP hB hS
  have b2_0 : ∀ (H : Heap) (locs : List Loc) (ls : Array Slot) (σ : St), m_takeBack σ0 = m_takeBack_2_0 σ → lv_has ls 2 [(0, .ref (q 0)), (1, .int 0)] → va_P D vwCl (wsM q cA σ) H → MB σ → va_S (MA q) s.heap H locs → W p l e (headSpec wsM_takeBack { frames := 0, cells := 0, slots := 0, locals := 0 }).room s m ([.ref (q 0)] : List Value).toArray below meth c H locs 0 0 (MQ below (va_Qv (fun u => u = m_takeBack σ0) (MPost D q cA) (MA q)) ([.ref (q 0)] : List Value).toArray s 0 0 (MA q)) (F0 m 2 ls []) := by
    intro H locs ls σ hE hl hP hB hS
    refine lv_iload_n hx hb dM_takeBack_2 rfl (lv_at hl 1 rfl) ?_
    refine lv_bipush (v := 12) hx hb dM_takeBack_3 (by decide) ?_
    refine lv_icmp_ge (tgt := 26) hx hb dM_takeBack_5 rfl (fun h1 => absurd h1 (by decide)) (fun _ => ?_)
    refine lv_aload_n hx hb dM_takeBack_8 rfl (lv_at hl 0 rfl) ?_
    refine mget_0_8 hx hb hts inM hown hC hP (hts _ wM_f26) dM_takeBack_9 ?_
    refine lv_iload_n hx hb dM_takeBack_12 rfl (lv_at hl 1 rfl) ?_
    refine lv_aload_n hx hb dM_takeBack_13 rfl (lv_at hl 0 rfl) ?_
    refine mget_0_9 hx hb hts inM hown hC hP (hts _ wM_f29) dM_takeBack_14 ?_
    refine lv_iload_n hx hb dM_takeBack_17 rfl (lv_at hl 1 rfl) ?_
    refine mald_6 hx hb hC hP (vin_c (by decide)) dM_takeBack_18 ?_
    refine mast_5 hx hb hC hP hS (vin_c (by decide)) dM_takeBack_19 (fun σ2 H locs e2 hP hS => ?_)
    have hE := hE.trans (bd_e e2)
    have hB : MB σ2 := by rw [e2]; exact hB
    refine lv_iinc (k := 1) (v := 1) (lv' := [(1, .int 1), (0, .ref (q 0))]) hx hb dM_takeBack_20 hl rfl (by decide) (by decide) rfl (fun ls hl => ?_)
    refine lv_goto (tgt := 2) hx hb dM_takeBack_23 rfl ?_
    have hl := lv_sub hl [1, 0] rfl
    exact b2_1 _ _ _ _ hE hl hP hB hS
  refine lv_iconst (v := 0) hx hb dM_takeBack_0 (by decide) ?_
  refine lv_istore_n (lv' := [(1, .int 0), (0, .ref (q 0))]) hx hb dM_takeBack_1 rfl hl (by decide) rfl (fun ls hl => ?_)
  have hl := lv_sub hl [1, 0] rfl
  exact b2_0 _ _ _ _ hE hl hP hB hS
set_option maxRecDepth 100000 in
set_option maxHeartbeats 4000000 in
theorem c_m_isClosedOne (l : Launch) (D : va_G) (q : Nat → Nat) (cA : ClassId) (σ0 : St) (a1 : Int32) : Met l yM_isClosedOne wsM_isClosedOne { frames := 0, cells := 0, slots := 0, locals := 0 } (va_Pc [.ref (q 0), .int a1] (MPre D q cA σ0)) (va_Qi (fun r u => (u, r) = m_isClosedOne σ0 a1 ∧ zb r) (MPost D q cA) (MA q)) 0 0 (MA q) := by
  refine Met.ofW (cc := cM_isClosedOne) (maxL := 2) (ret := (some .boolean)) (by decide) rfl ?_
  intro p e s m args below meth c s₁ B hml hv
  obtain ⟨rfl, hP, hB, hC⟩ := hv
  have hx := B.exec
  have hb := B.bytes
  have hr := B.returns
  have hts : ∀ w ∈ gw, w.before ([.ref (q 0), .int a1] : List Value).toArray s = true := fun w h => atoms_spec (ws := wsM_isClosedOne) B.pre w (List.mem_cons_of_mem _ h)
  have hown : s.vm.findClass RM = some m.cls := findClass_of_methodNamed B.named
  have hlocks := B.notSynchronized
  have hS : va_S (MA q) s.heap s.heap [] := va_S.rf
  have hl := lv_entry ([.ref (q 0), .int a1]) (n := 2) (Nat.le_of_ble_eq_true rfl)
  rw [lg_entry_eq]
  generalize (lg_sl ([.ref (q 0), .int a1]) ++ List.replicate (2 - (lg_sl ([.ref (q 0), .int a1])).length) Slot.unset).toArray = ls at hl ⊢
  have hl : lv_has ls 2 [(0, .ref (q 0)), (1, .int a1)] := hl
  have hE : m_isClosedOne σ0 a1 = m_isClosedOne σ0 a1 := rfl
  have b24 : ∀ (H : Heap) (locs : List Loc) (ls : Array Slot) (σ : St) (y0 : Int32), zb y0 → m_isClosedOne σ0 a1 = m_isClosedOne_24 σ y0 → lv_has ls 2 [] → va_P D vwCl (wsM q cA σ) H → MB σ → va_S (MA q) s.heap H locs → W p l e (headSpec wsM_isClosedOne { frames := 0, cells := 0, slots := 0, locals := 0 }).room s m ([.ref (q 0), .int a1] : List Value).toArray below meth c H locs 0 0 (MQ below (va_Qi (fun r u => (u, r) = m_isClosedOne σ0 a1 ∧ zb r) (MPost D q cA) (MA q)) ([.ref (q 0), .int a1] : List Value).toArray s 0 0 (MA q)) (F0 m 24 ls [.int y0]) := by
    intro H locs ls σ y0 hz_y0 hE hl hP hB hS
    exact W.zret (v := y0) hx hb hr (zb_n hz_y0).1 (fun t ht hW => ⟨⟨y0, σ, rfl, ⟨hE.symm, hz_y0⟩, ⟨by rw [ht]; exact hP, hB⟩⟩, hS.F ht⟩) hS.2.2 dM_isClosedOne_24
  have b19 : ∀ (H : Heap) (locs : List Loc) (ls : Array Slot) (σ : St), m_isClosedOne σ0 a1 = m_isClosedOne_19 σ → lv_has ls 2 [] → va_P D vwCl (wsM q cA σ) H → MB σ → va_S (MA q) s.heap H locs → W p l e (headSpec wsM_isClosedOne { frames := 0, cells := 0, slots := 0, locals := 0 }).room s m ([.ref (q 0), .int a1] : List Value).toArray below meth c H locs 0 0 (MQ below (va_Qi (fun r u => (u, r) = m_isClosedOne σ0 a1 ∧ zb r) (MPost D q cA) (MA q)) ([.ref (q 0), .int a1] : List Value).toArray s 0 0 (MA q)) (F0 m 19 ls []) := by
    intro H locs ls σ hE hl hP hB hS
    refine lv_iconst (v := 1) hx hb dM_isClosedOne_19 (by decide) ?_
    refine lv_goto (tgt := 24) hx hb dM_isClosedOne_20 rfl ?_
    exact b24 _ _ _ _ 1 (by decide) hE hl hP hB hS
  refine lv_iload_n hx hb dM_isClosedOne_0 rfl (lv_at hl 1 rfl) ?_
  refine lv_iconst (v := 3) hx hb dM_isClosedOne_1 (by decide) ?_
  refine lv_icmp_lt (tgt := 19) hx hb dM_isClosedOne_2 rfl (fun h1 => ?_) (fun h1 => ?_)
  · have hE := hE.trans (if_pos h1)
    have hl := lv_sub hl [] rfl
    exact b19 _ _ _ _ hE hl hP hB hS
  · have hE := hE.trans (if_neg h1)
    refine lv_aload_n hx hb dM_isClosedOne_5 rfl (lv_at hl 0 rfl) ?_
    refine mget_0_5 hx hb hts inM hown hC hP (hts _ wM_f39) dM_isClosedOne_6 ?_
    refine lv_iload_n hx hb dM_isClosedOne_9 rfl (lv_at hl 1 rfl) ?_
    refine lv_iconst (v := 3) hx hb dM_isClosedOne_10 (by decide) ?_
    refine lv_isub hx hb dM_isClosedOne_11 ?_
    refine lv_ishr hx hb dM_isClosedOne_12 ?_
    refine lv_iconst (v := 1) hx hb dM_isClosedOne_13 (by decide) ?_
    refine lv_iand hx hb dM_isClosedOne_14 ?_
    refine lv_iconst (v := 1) hx hb dM_isClosedOne_15 (by decide) ?_
    refine lv_icmp_ne (tgt := 23) hx hb dM_isClosedOne_16 rfl (fun h2 => ?_) (fun h2 => ?_)
    · have hE := hE.trans (if_neg h2)
      refine lv_iconst (v := 0) hx hb dM_isClosedOne_23 (by decide) ?_
      have hl := lv_sub hl [] rfl
      exact b24 _ _ _ _ 0 (by decide) hE hl hP hB hS
    · have hE := hE.trans (if_pos h2)
      have hl := lv_sub hl [] rfl
      exact b19 _ _ _ _ hE hl hP hB hS
set_option maxRecDepth 100000 in
set_option maxHeartbeats 4000000 in
theorem c_m_take (l : Launch) (D : va_G) (q : Nat → Nat) (cA : ClassId) (σ0 : St) (a1 : Int32) (a2 : Int32) : Met l yM_take wsM_take { frames := 4, cells := 0, slots := 0, locals := 90 } (va_Pc [.ref (q 0), .int a1, .int a2] (MPre D q cA σ0)) (va_Qv (fun u => u = m_take σ0 a1 a2) (MPost D q cA) (MA q)) 0 0 (MA q) := by
  refine Met.ofW (cc := cM_take) (maxL := 6) (ret := none) (by decide) rfl ?_
  intro p e s m args below meth c s₁ B hml hv
  obtain ⟨rfl, hP, hB, hC⟩ := hv
  have hx := B.exec
  have hb := B.bytes
  have hr := B.returns
  have hts : ∀ w ∈ gw, w.before ([.ref (q 0), .int a1, .int a2] : List Value).toArray s = true := fun w h => atoms_spec (ws := wsM_take) B.pre w (List.mem_cons_of_mem _ h)
  have hown : s.vm.findClass RM = some m.cls := findClass_of_methodNamed B.named
  have hlocks := B.notSynchronized
  have hS : va_S (MA q) s.heap s.heap [] := va_S.rf
  have hl := lv_entry ([.ref (q 0), .int a1, .int a2]) (n := 6) (Nat.le_of_ble_eq_true rfl)
  rw [lg_entry_eq]
  generalize (lg_sl ([.ref (q 0), .int a1, .int a2]) ++ List.replicate (6 - (lg_sl ([.ref (q 0), .int a1, .int a2])).length) Slot.unset).toArray = ls at hl ⊢
  have hl : lv_has ls 6 [(0, .ref (q 0)), (1, .int a1), (2, .int a2)] := hl
  have hE : m_take σ0 a1 a2 = m_take σ0 a1 a2 := rfl
  have b226_8_7 : ∀ (H : Heap) (locs : List Loc) (ls : Array Slot) (σ : St) (x1 : Int32) (y0 : Int32), m_take σ0 a1 a2 = m_take_226_8_7 σ x1 y0 → lv_has ls 6 [(0, .ref (q 0)), (1, .int x1)] → va_P D vwCl (wsM q cA σ) H → MB σ → va_S (MA q) s.heap H locs → W p l e (headSpec wsM_take { frames := 4, cells := 0, slots := 0, locals := 90 }).room s m ([.ref (q 0), .int a1, .int a2] : List Value).toArray below meth c H locs 0 0 (MQ below (va_Qv (fun u => u = m_take σ0 a1 a2) (MPost D q cA) (MA q)) ([.ref (q 0), .int a1, .int a2] : List Value).toArray s 0 0 (MA q)) (F0 m 226 ls [.int y0, .int 8, .ref (q 1), .int 7, .ref (q 5)]) := by
    intro H locs ls σ x1 y0 hE hl hP hB hS
    refine lv_imul hx hb dM_take_226 ?_
    refine lv_iload_n hx hb dM_take_227 rfl (lv_at hl 1 rfl) ?_
    refine lv_iadd hx hb dM_take_228 ?_
    refine lv_sipush (v := 255) hx hb dM_take_229 (by decide) ?_
    refine lv_iand hx hb dM_take_232 ?_
    refine mald_1 hx hb hC hP (vin_m 8 (by decide) (by decide) (by decide)) dM_take_233 ?_
    refine lv_sipush (v := 255) hx hb dM_take_234 (by decide) ?_
    refine lv_iand hx hb dM_take_237 ?_
    refine mast_5 hx hb hC hP hS (vin_c (by decide)) dM_take_238 (fun σ33 H locs e33 hP hS => ?_)
    have hE := hE.trans (bd_e e33)
    have hB : MB σ33 := by rw [e33]; exact hB
    refine lv_aload_n hx hb dM_take_239 rfl (lv_at hl 0 rfl) ?_
    refine lv_iload_n hx hb dM_take_240 rfl (lv_at hl 1 rfl) ?_
    refine mput_0_10 hx hb hts inM hown hC hP (hts _ wM_f52) hS dM_take_241 (fun σ34 H locs e34 hP hS => ?_)
    have hE := hE.trans (bd_e e34)
    have hB : MB σ34 := by rw [e34]; exact hB
    refine lv_aload_n hx hb dM_take_244 rfl (lv_at hl 0 rfl) ?_
    refine lv_iload_n hx hb dM_take_245 rfl (lv_at hl 1 rfl) ?_
    refine mput_0_13 hx hb hts inM hown hC hP (hts _ wM_f100) hS dM_take_246 (fun σ35 H locs e35 hP hS => ?_)
    have hE := hE.trans (bd_e e35)
    have hB : MB σ35 := by rw [e35]; exact hB
    exact W.vret hx hb hr (fun t ht hW => ⟨⟨σ35, rfl, hE.symm, ⟨by rw [ht]; exact hP, hB⟩⟩, hS.F ht⟩) hS.2.2 dM_take_249
  have b197_11 : ∀ (H : Heap) (locs : List Loc) (ls : Array Slot) (σ : St) (x1 : Int32) (x4 : Int32) (y0 : Int32), m_take σ0 a1 a2 = m_take_197_11 σ x1 x4 y0 → lv_has ls 6 [(0, .ref (q 0)), (1, .int x1), (4, .int x4)] → va_P D vwCl (wsM q cA σ) H → MB σ → va_S (MA q) s.heap H locs → W p l e (headSpec wsM_take { frames := 4, cells := 0, slots := 0, locals := 90 }).room s m ([.ref (q 0), .int a1, .int a2] : List Value).toArray below meth c H locs 0 0 (MQ below (va_Qv (fun u => u = m_take σ0 a1 a2) (MPost D q cA) (MA q)) ([.ref (q 0), .int a1, .int a2] : List Value).toArray s 0 0 (MA q)) (F0 m 197 ls [.int y0, .int 11, .ref (q 5)]) := by
    intro H locs ls σ x1 x4 y0 hE hl hP hB hS
    refine mast_5 hx hb hC hP hS (vin_c (by decide)) dM_take_197 (fun σ31 H locs e31 hP hS => ?_)
    have hE := hE.trans (bd_e e31)
    have hB : MB σ31 := by rw [e31]; exact hB
    refine lv_aload_n hx hb dM_take_198 rfl (lv_at hl 0 rfl) ?_
    refine mget_0_8 hx hb hts inM hown hC hP (hts _ wM_f26) dM_take_199 ?_
    refine lv_bipush (v := 7) hx hb dM_take_202 (by decide) ?_
    refine lv_aload_n hx hb dM_take_204 rfl (lv_at hl 0 rfl) ?_
    refine mget_0_0 hx hb hts inM hown hC hP (hts _ wM_f7) dM_take_205 ?_
    refine lv_bipush (v := 8) hx hb dM_take_208 (by decide) ?_
    refine lv_iload hx hb dM_take_210 (lv_at hl 2 rfl) ?_
    refine lv_if_eq (tgt := 222) hx hb dM_take_212 rfl (fun h32 => ?_) (fun h32 => ?_)
    · have hE := hE.trans (if_pos h32)
      refine lv_aload_n hx hb dM_take_222 rfl (lv_at hl 0 rfl) ?_
      refine mget_0_7 hx hb hts inM hown hC hP (hts _ wM_f46) dM_take_223 ?_
      have hl := lv_sub hl [0, 1] rfl
      exact b226_8_7 _ _ _ _ x1 (σ31 0 7) hE hl hP hB hS
    · have hE := hE.trans (if_neg h32)
      refine lv_aload_n hx hb dM_take_215 rfl (lv_at hl 0 rfl) ?_
      refine mget_0_6 hx hb hts inM hown hC hP (hts _ wM_f43) dM_take_216 ?_
      refine lv_goto (tgt := 226) hx hb dM_take_219 rfl ?_
      have hl := lv_sub hl [0, 1] rfl
      exact b226_8_7 _ _ _ _ x1 (σ31 0 6) hE hl hP hB hS
  have b181 : ∀ (H : Heap) (locs : List Loc) (ls : Array Slot) (σ : St) (x1 : Int32) (x4 : Int32), m_take σ0 a1 a2 = m_take_181 σ x1 x4 → lv_has ls 6 [(0, .ref (q 0)), (1, .int x1), (4, .int x4)] → va_P D vwCl (wsM q cA σ) H → MB σ → va_S (MA q) s.heap H locs → W p l e (headSpec wsM_take { frames := 4, cells := 0, slots := 0, locals := 90 }).room s m ([.ref (q 0), .int a1, .int a2] : List Value).toArray below meth c H locs 0 0 (MQ below (va_Qv (fun u => u = m_take σ0 a1 a2) (MPost D q cA) (MA q)) ([.ref (q 0), .int a1, .int a2] : List Value).toArray s 0 0 (MA q)) (F0 m 181 ls []) := by
    intro H locs ls σ x1 x4 hE hl hP hB hS
    refine lv_aload_n hx hb dM_take_181 rfl (lv_at hl 0 rfl) ?_
    refine mget_0_8 hx hb hts inM hown hC hP (hts _ wM_f26) dM_take_182 ?_
    refine lv_bipush (v := 11) hx hb dM_take_185 (by decide) ?_
    refine lv_iload hx hb dM_take_187 (lv_at hl 2 rfl) ?_
    refine lv_if_eq (tgt := 196) hx hb dM_take_189 rfl (fun h30 => ?_) (fun h30 => ?_)
    · have hE := hE.trans (if_pos h30)
      refine lv_iconst (v := 1) hx hb dM_take_196 (by decide) ?_
      exact b197_11 _ _ _ _ x1 x4 1 hE hl hP hB hS
    · have hE := hE.trans (if_neg h30)
      refine lv_iconst (v := 0) hx hb dM_take_192 (by decide) ?_
      refine lv_goto (tgt := 197) hx hb dM_take_193 rfl ?_
      exact b197_11 _ _ _ _ x1 x4 0 hE hl hP hB hS
  have b164 : ∀ (H : Heap) (locs : List Loc) (ls : Array Slot) (σ : St) (x1 : Int32) (x3 : Int32) (x4 : Int32), m_take σ0 a1 a2 = m_take_164 σ x1 x3 x4 → lv_has ls 6 [(0, .ref (q 0)), (1, .int x1), (3, .int x3), (4, .int x4)] → va_P D vwCl (wsM q cA σ) H → MB σ → va_S (MA q) s.heap H locs → W p l e (headSpec wsM_take { frames := 4, cells := 0, slots := 0, locals := 90 }).room s m ([.ref (q 0), .int a1, .int a2] : List Value).toArray below meth c H locs 0 0 (MQ below (va_Qv (fun u => u = m_take σ0 a1 a2) (MPost D q cA) (MA q)) ([.ref (q 0), .int a1, .int a2] : List Value).toArray s 0 0 (MA q)) (F0 m 164 ls []) := by
    intro H locs ls σ x1 x3 x4 hE hl hP hB hS
    refine lv_iload_n hx hb dM_take_164 rfl (lv_at hl 2 rfl) ?_
    refine lv_if_eq (tgt := 181) hx hb dM_take_165 rfl (fun h29 => ?_) (fun h29 => ?_)
    · have hE := hE.trans (if_pos h29)
      have hl := lv_sub hl [0, 1, 3] rfl
      exact b181 _ _ _ _ x1 x4 hE hl hP hB hS
    · have hE := hE.trans (if_neg h29)
      refine lv_iload hx hb dM_take_168 (lv_at hl 3 rfl) ?_
      refine lv_if_ne (tgt := 181) hx hb dM_take_170 rfl (fun h36 => ?_) (fun h36 => ?_)
      · have hE := hE.trans (if_neg h36)
        have hl := lv_sub hl [0, 1, 3] rfl
        exact b181 _ _ _ _ x1 x4 hE hl hP hB hS
      · have hE := hE.trans (if_pos h36)
        refine lv_aload_n hx hb dM_take_173 rfl (lv_at hl 0 rfl) ?_
        refine mget_0_8 hx hb hts inM hown hC hP (hts _ wM_f26) dM_take_174 ?_
        refine lv_bipush (v := 10) hx hb dM_take_177 (by decide) ?_
        refine lv_iconst (v := 0) hx hb dM_take_179 (by decide) ?_
        refine mast_5 hx hb hC hP hS (vin_c (by decide)) dM_take_180 (fun σ37 H locs e37 hP hS => ?_)
        have hE := hE.trans (bd_e e37)
        have hB : MB σ37 := by rw [e37]; exact hB
        have hl := lv_sub hl [0, 1, 3] rfl
        exact b181 _ _ _ _ x1 x4 hE hl hP hB hS
  have b134_6 : ∀ (H : Heap) (locs : List Loc) (ls : Array Slot) (σ : St) (x1 : Int32) (x3 : Int32) (x4 : Int32), m_take σ0 a1 a2 = m_take_134_6 σ x1 x3 x4 → lv_has ls 6 [(0, .ref (q 0)), (1, .int x1), (3, .int x3), (4, .int x4), (5, .int 6)] → va_P D vwCl (wsM q cA σ) H → MB σ → va_S (MA q) s.heap H locs → W p l e (headSpec wsM_take { frames := 4, cells := 0, slots := 0, locals := 90 }).room s m ([.ref (q 0), .int a1, .int a2] : List Value).toArray below meth c H locs 0 0 (MQ below (va_Qv (fun u => u = m_take σ0 a1 a2) (MPost D q cA) (MA q)) ([.ref (q 0), .int a1, .int a2] : List Value).toArray s 0 0 (MA q)) (F0 m 134 ls []) := by
    intro H locs ls σ x1 x3 x4 hE hl hP hB hS
    refine lv_iload hx hb dM_take_134 (lv_at hl 4 rfl) ?_
    refine lv_bipush (v := 6) hx hb dM_take_136 (by decide) ?_
    refine lv_icmp_ge (tgt := 164) hx hb dM_take_138 rfl (fun _ => ?_) (fun h60 => absurd (by decide) h60)
    have hl := lv_sub hl [0, 1, 2, 3] rfl
    exact b164 _ _ _ _ x1 x3 x4 hE hl hP hB hS
  have b134_5 : ∀ (H : Heap) (locs : List Loc) (ls : Array Slot) (σ : St) (x1 : Int32) (x3 : Int32) (x4 : Int32), m_take σ0 a1 a2 = m_take_134_5 σ x1 x3 x4 → lv_has ls 6 [(0, .ref (q 0)), (1, .int x1), (3, .int x3), (4, .int x4), (5, .int 5)] → va_P D vwCl (wsM q cA σ) H → MB σ → va_S (MA q) s.heap H locs → W p l e (headSpec wsM_take { frames := 4, cells := 0, slots := 0, locals := 90 }).room s m ([.ref (q 0), .int a1, .int a2] : List Value).toArray below meth c H locs 0 0 (MQ below (va_Qv (fun u => u = m_take σ0 a1 a2) (MPost D q cA) (MA q)) ([.ref (q 0), .int a1, .int a2] : List Value).toArray s 0 0 (MA q)) (F0 m 134 ls []) := by
    intro H locs ls σ x1 x3 x4 hE hl hP hB hS
    refine lv_iload hx hb dM_take_134 (lv_at hl 4 rfl) ?_
    refine lv_bipush (v := 6) hx hb dM_take_136 (by decide) ?_
    refine lv_icmp_ge (tgt := 164) hx hb dM_take_138 rfl (fun h56 => absurd h56 (by decide)) (fun _ => ?_)
    refine lv_iload_n hx hb dM_take_141 rfl (lv_at hl 2 rfl) ?_
    refine lv_if_eq (tgt := 164) hx hb dM_take_142 rfl (fun h57 => ?_) (fun h57 => ?_)
    · have hE := hE.trans (if_pos h57)
      have hl := lv_sub hl [0, 1, 2, 3] rfl
      exact b164 _ _ _ _ x1 x3 x4 hE hl hP hB hS
    · have hE := hE.trans (if_neg h57)
      refine lv_iload hx hb dM_take_145 (lv_at hl 3 rfl) ?_
      refine lv_if_ne (tgt := 164) hx hb dM_take_147 rfl (fun h58 => ?_) (fun h58 => ?_)
      · have hE := hE.trans (if_neg h58)
        have hl := lv_sub hl [0, 1, 2, 3] rfl
        exact b164 _ _ _ _ x1 x3 x4 hE hl hP hB hS
      · have hE := hE.trans (if_pos h58)
        refine lv_aload_n hx hb dM_take_150 rfl (lv_at hl 0 rfl) ?_
        refine mget_0_8 hx hb hts inM hown hC hP (hts _ wM_f26) dM_take_151 ?_
        refine lv_iload hx hb dM_take_154 (lv_at hl 4 rfl) ?_
        refine lv_iconst (v := 0) hx hb dM_take_156 (by decide) ?_
        refine mast_5 hx hb hC hP hS (vin_c (by decide)) dM_take_157 (fun σ59 H locs e59 hP hS => ?_)
        have hE := hE.trans (bd_e e59)
        have hB : MB σ59 := by rw [e59]; exact hB
        refine lv_iinc (k := 4) (v := 6) (lv' := [(5, .int 6), (0, .ref (q 0)), (1, .int x1), (3, .int x3), (4, .int x4)]) hx hb dM_take_158 hl rfl (by decide) (by decide) rfl (fun ls hl => ?_)
        refine lv_goto (tgt := 134) hx hb dM_take_161 rfl ?_
        have hl := lv_sub hl [1, 2, 3, 4, 0] rfl
        exact b134_6 _ _ _ _ x1 x3 x4 hE hl hP hB hS
  have b134_4 : ∀ (H : Heap) (locs : List Loc) (ls : Array Slot) (σ : St) (x1 : Int32) (x3 : Int32) (x4 : Int32), m_take σ0 a1 a2 = m_take_134_4 σ x1 x3 x4 → lv_has ls 6 [(0, .ref (q 0)), (1, .int x1), (3, .int x3), (4, .int x4), (5, .int 4)] → va_P D vwCl (wsM q cA σ) H → MB σ → va_S (MA q) s.heap H locs → W p l e (headSpec wsM_take { frames := 4, cells := 0, slots := 0, locals := 90 }).room s m ([.ref (q 0), .int a1, .int a2] : List Value).toArray below meth c H locs 0 0 (MQ below (va_Qv (fun u => u = m_take σ0 a1 a2) (MPost D q cA) (MA q)) ([.ref (q 0), .int a1, .int a2] : List Value).toArray s 0 0 (MA q)) (F0 m 134 ls []) := by
    intro H locs ls σ x1 x3 x4 hE hl hP hB hS
    refine lv_iload hx hb dM_take_134 (lv_at hl 4 rfl) ?_
    refine lv_bipush (v := 6) hx hb dM_take_136 (by decide) ?_
    refine lv_icmp_ge (tgt := 164) hx hb dM_take_138 rfl (fun h52 => absurd h52 (by decide)) (fun _ => ?_)
    refine lv_iload_n hx hb dM_take_141 rfl (lv_at hl 2 rfl) ?_
    refine lv_if_eq (tgt := 164) hx hb dM_take_142 rfl (fun h53 => ?_) (fun h53 => ?_)
    · have hE := hE.trans (if_pos h53)
      have hl := lv_sub hl [0, 1, 2, 3] rfl
      exact b164 _ _ _ _ x1 x3 x4 hE hl hP hB hS
    · have hE := hE.trans (if_neg h53)
      refine lv_iload hx hb dM_take_145 (lv_at hl 3 rfl) ?_
      refine lv_if_ne (tgt := 164) hx hb dM_take_147 rfl (fun h54 => ?_) (fun h54 => ?_)
      · have hE := hE.trans (if_neg h54)
        have hl := lv_sub hl [0, 1, 2, 3] rfl
        exact b164 _ _ _ _ x1 x3 x4 hE hl hP hB hS
      · have hE := hE.trans (if_pos h54)
        refine lv_aload_n hx hb dM_take_150 rfl (lv_at hl 0 rfl) ?_
        refine mget_0_8 hx hb hts inM hown hC hP (hts _ wM_f26) dM_take_151 ?_
        refine lv_iload hx hb dM_take_154 (lv_at hl 4 rfl) ?_
        refine lv_iconst (v := 0) hx hb dM_take_156 (by decide) ?_
        refine mast_5 hx hb hC hP hS (vin_c (by decide)) dM_take_157 (fun σ55 H locs e55 hP hS => ?_)
        have hE := hE.trans (bd_e e55)
        have hB : MB σ55 := by rw [e55]; exact hB
        refine lv_iinc (k := 4) (v := 5) (lv' := [(5, .int 5), (0, .ref (q 0)), (1, .int x1), (3, .int x3), (4, .int x4)]) hx hb dM_take_158 hl rfl (by decide) (by decide) rfl (fun ls hl => ?_)
        refine lv_goto (tgt := 134) hx hb dM_take_161 rfl ?_
        have hl := lv_sub hl [1, 2, 3, 4, 0] rfl
        exact b134_5 _ _ _ _ x1 x3 x4 hE hl hP hB hS
  have b134_3 : ∀ (H : Heap) (locs : List Loc) (ls : Array Slot) (σ : St) (x1 : Int32) (x3 : Int32) (x4 : Int32), m_take σ0 a1 a2 = m_take_134_3 σ x1 x3 x4 → lv_has ls 6 [(0, .ref (q 0)), (1, .int x1), (3, .int x3), (4, .int x4), (5, .int 3)] → va_P D vwCl (wsM q cA σ) H → MB σ → va_S (MA q) s.heap H locs → W p l e (headSpec wsM_take { frames := 4, cells := 0, slots := 0, locals := 90 }).room s m ([.ref (q 0), .int a1, .int a2] : List Value).toArray below meth c H locs 0 0 (MQ below (va_Qv (fun u => u = m_take σ0 a1 a2) (MPost D q cA) (MA q)) ([.ref (q 0), .int a1, .int a2] : List Value).toArray s 0 0 (MA q)) (F0 m 134 ls []) := by
    intro H locs ls σ x1 x3 x4 hE hl hP hB hS
    refine lv_iload hx hb dM_take_134 (lv_at hl 4 rfl) ?_
    refine lv_bipush (v := 6) hx hb dM_take_136 (by decide) ?_
    refine lv_icmp_ge (tgt := 164) hx hb dM_take_138 rfl (fun h48 => absurd h48 (by decide)) (fun _ => ?_)
    refine lv_iload_n hx hb dM_take_141 rfl (lv_at hl 2 rfl) ?_
    refine lv_if_eq (tgt := 164) hx hb dM_take_142 rfl (fun h49 => ?_) (fun h49 => ?_)
    · have hE := hE.trans (if_pos h49)
      have hl := lv_sub hl [0, 1, 2, 3] rfl
      exact b164 _ _ _ _ x1 x3 x4 hE hl hP hB hS
    · have hE := hE.trans (if_neg h49)
      refine lv_iload hx hb dM_take_145 (lv_at hl 3 rfl) ?_
      refine lv_if_ne (tgt := 164) hx hb dM_take_147 rfl (fun h50 => ?_) (fun h50 => ?_)
      · have hE := hE.trans (if_neg h50)
        have hl := lv_sub hl [0, 1, 2, 3] rfl
        exact b164 _ _ _ _ x1 x3 x4 hE hl hP hB hS
      · have hE := hE.trans (if_pos h50)
        refine lv_aload_n hx hb dM_take_150 rfl (lv_at hl 0 rfl) ?_
        refine mget_0_8 hx hb hts inM hown hC hP (hts _ wM_f26) dM_take_151 ?_
        refine lv_iload hx hb dM_take_154 (lv_at hl 4 rfl) ?_
        refine lv_iconst (v := 0) hx hb dM_take_156 (by decide) ?_
        refine mast_5 hx hb hC hP hS (vin_c (by decide)) dM_take_157 (fun σ51 H locs e51 hP hS => ?_)
        have hE := hE.trans (bd_e e51)
        have hB : MB σ51 := by rw [e51]; exact hB
        refine lv_iinc (k := 4) (v := 4) (lv' := [(5, .int 4), (0, .ref (q 0)), (1, .int x1), (3, .int x3), (4, .int x4)]) hx hb dM_take_158 hl rfl (by decide) (by decide) rfl (fun ls hl => ?_)
        refine lv_goto (tgt := 134) hx hb dM_take_161 rfl ?_
        have hl := lv_sub hl [1, 2, 3, 4, 0] rfl
        exact b134_4 _ _ _ _ x1 x3 x4 hE hl hP hB hS
  have b134_2 : ∀ (H : Heap) (locs : List Loc) (ls : Array Slot) (σ : St) (x1 : Int32) (x3 : Int32) (x4 : Int32), m_take σ0 a1 a2 = m_take_134_2 σ x1 x3 x4 → lv_has ls 6 [(0, .ref (q 0)), (1, .int x1), (3, .int x3), (4, .int x4), (5, .int 2)] → va_P D vwCl (wsM q cA σ) H → MB σ → va_S (MA q) s.heap H locs → W p l e (headSpec wsM_take { frames := 4, cells := 0, slots := 0, locals := 90 }).room s m ([.ref (q 0), .int a1, .int a2] : List Value).toArray below meth c H locs 0 0 (MQ below (va_Qv (fun u => u = m_take σ0 a1 a2) (MPost D q cA) (MA q)) ([.ref (q 0), .int a1, .int a2] : List Value).toArray s 0 0 (MA q)) (F0 m 134 ls []) := by
    intro H locs ls σ x1 x3 x4 hE hl hP hB hS
    refine lv_iload hx hb dM_take_134 (lv_at hl 4 rfl) ?_
    refine lv_bipush (v := 6) hx hb dM_take_136 (by decide) ?_
    refine lv_icmp_ge (tgt := 164) hx hb dM_take_138 rfl (fun h44 => absurd h44 (by decide)) (fun _ => ?_)
    refine lv_iload_n hx hb dM_take_141 rfl (lv_at hl 2 rfl) ?_
    refine lv_if_eq (tgt := 164) hx hb dM_take_142 rfl (fun h45 => ?_) (fun h45 => ?_)
    · have hE := hE.trans (if_pos h45)
      have hl := lv_sub hl [0, 1, 2, 3] rfl
      exact b164 _ _ _ _ x1 x3 x4 hE hl hP hB hS
    · have hE := hE.trans (if_neg h45)
      refine lv_iload hx hb dM_take_145 (lv_at hl 3 rfl) ?_
      refine lv_if_ne (tgt := 164) hx hb dM_take_147 rfl (fun h46 => ?_) (fun h46 => ?_)
      · have hE := hE.trans (if_neg h46)
        have hl := lv_sub hl [0, 1, 2, 3] rfl
        exact b164 _ _ _ _ x1 x3 x4 hE hl hP hB hS
      · have hE := hE.trans (if_pos h46)
        refine lv_aload_n hx hb dM_take_150 rfl (lv_at hl 0 rfl) ?_
        refine mget_0_8 hx hb hts inM hown hC hP (hts _ wM_f26) dM_take_151 ?_
        refine lv_iload hx hb dM_take_154 (lv_at hl 4 rfl) ?_
        refine lv_iconst (v := 0) hx hb dM_take_156 (by decide) ?_
        refine mast_5 hx hb hC hP hS (vin_c (by decide)) dM_take_157 (fun σ47 H locs e47 hP hS => ?_)
        have hE := hE.trans (bd_e e47)
        have hB : MB σ47 := by rw [e47]; exact hB
        refine lv_iinc (k := 4) (v := 3) (lv' := [(5, .int 3), (0, .ref (q 0)), (1, .int x1), (3, .int x3), (4, .int x4)]) hx hb dM_take_158 hl rfl (by decide) (by decide) rfl (fun ls hl => ?_)
        refine lv_goto (tgt := 134) hx hb dM_take_161 rfl ?_
        have hl := lv_sub hl [1, 2, 3, 4, 0] rfl
        exact b134_3 _ _ _ _ x1 x3 x4 hE hl hP hB hS
  have b134_1 : ∀ (H : Heap) (locs : List Loc) (ls : Array Slot) (σ : St) (x1 : Int32) (x3 : Int32) (x4 : Int32), m_take σ0 a1 a2 = m_take_134_1 σ x1 x3 x4 → lv_has ls 6 [(0, .ref (q 0)), (1, .int x1), (3, .int x3), (4, .int x4), (5, .int 1)] → va_P D vwCl (wsM q cA σ) H → MB σ → va_S (MA q) s.heap H locs → W p l e (headSpec wsM_take { frames := 4, cells := 0, slots := 0, locals := 90 }).room s m ([.ref (q 0), .int a1, .int a2] : List Value).toArray below meth c H locs 0 0 (MQ below (va_Qv (fun u => u = m_take σ0 a1 a2) (MPost D q cA) (MA q)) ([.ref (q 0), .int a1, .int a2] : List Value).toArray s 0 0 (MA q)) (F0 m 134 ls []) := by
    intro H locs ls σ x1 x3 x4 hE hl hP hB hS
    refine lv_iload hx hb dM_take_134 (lv_at hl 4 rfl) ?_
    refine lv_bipush (v := 6) hx hb dM_take_136 (by decide) ?_
    refine lv_icmp_ge (tgt := 164) hx hb dM_take_138 rfl (fun h40 => absurd h40 (by decide)) (fun _ => ?_)
    refine lv_iload_n hx hb dM_take_141 rfl (lv_at hl 2 rfl) ?_
    refine lv_if_eq (tgt := 164) hx hb dM_take_142 rfl (fun h41 => ?_) (fun h41 => ?_)
    · have hE := hE.trans (if_pos h41)
      have hl := lv_sub hl [0, 1, 2, 3] rfl
      exact b164 _ _ _ _ x1 x3 x4 hE hl hP hB hS
    · have hE := hE.trans (if_neg h41)
      refine lv_iload hx hb dM_take_145 (lv_at hl 3 rfl) ?_
      refine lv_if_ne (tgt := 164) hx hb dM_take_147 rfl (fun h42 => ?_) (fun h42 => ?_)
      · have hE := hE.trans (if_neg h42)
        have hl := lv_sub hl [0, 1, 2, 3] rfl
        exact b164 _ _ _ _ x1 x3 x4 hE hl hP hB hS
      · have hE := hE.trans (if_pos h42)
        refine lv_aload_n hx hb dM_take_150 rfl (lv_at hl 0 rfl) ?_
        refine mget_0_8 hx hb hts inM hown hC hP (hts _ wM_f26) dM_take_151 ?_
        refine lv_iload hx hb dM_take_154 (lv_at hl 4 rfl) ?_
        refine lv_iconst (v := 0) hx hb dM_take_156 (by decide) ?_
        refine mast_5 hx hb hC hP hS (vin_c (by decide)) dM_take_157 (fun σ43 H locs e43 hP hS => ?_)
        have hE := hE.trans (bd_e e43)
        have hB : MB σ43 := by rw [e43]; exact hB
        refine lv_iinc (k := 4) (v := 2) (lv' := [(5, .int 2), (0, .ref (q 0)), (1, .int x1), (3, .int x3), (4, .int x4)]) hx hb dM_take_158 hl rfl (by decide) (by decide) rfl (fun ls hl => ?_)
        refine lv_goto (tgt := 134) hx hb dM_take_161 rfl ?_
        have hl := lv_sub hl [1, 2, 3, 4, 0] rfl
        exact b134_2 _ _ _ _ x1 x3 x4 hE hl hP hB hS
  have b134_0 : ∀ (H : Heap) (locs : List Loc) (ls : Array Slot) (σ : St) (x1 : Int32) (x3 : Int32) (x4 : Int32), m_take σ0 a1 a2 = m_take_134_0 σ x1 x3 x4 → lv_has ls 6 [(0, .ref (q 0)), (1, .int x1), (3, .int x3), (4, .int x4), (5, .int 0)] → va_P D vwCl (wsM q cA σ) H → MB σ → va_S (MA q) s.heap H locs → W p l e (headSpec wsM_take { frames := 4, cells := 0, slots := 0, locals := 90 }).room s m ([.ref (q 0), .int a1, .int a2] : List Value).toArray below meth c H locs 0 0 (MQ below (va_Qv (fun u => u = m_take σ0 a1 a2) (MPost D q cA) (MA q)) ([.ref (q 0), .int a1, .int a2] : List Value).toArray s 0 0 (MA q)) (F0 m 134 ls []) := by
    intro H locs ls σ x1 x3 x4 hE hl hP hB hS
    refine lv_iload hx hb dM_take_134 (lv_at hl 4 rfl) ?_
    refine lv_bipush (v := 6) hx hb dM_take_136 (by decide) ?_
    refine lv_icmp_ge (tgt := 164) hx hb dM_take_138 rfl (fun h27 => absurd h27 (by decide)) (fun _ => ?_)
    refine lv_iload_n hx hb dM_take_141 rfl (lv_at hl 2 rfl) ?_
    refine lv_if_eq (tgt := 164) hx hb dM_take_142 rfl (fun h28 => ?_) (fun h28 => ?_)
    · have hE := hE.trans (if_pos h28)
      have hl := lv_sub hl [0, 1, 2, 3] rfl
      exact b164 _ _ _ _ x1 x3 x4 hE hl hP hB hS
    · have hE := hE.trans (if_neg h28)
      refine lv_iload hx hb dM_take_145 (lv_at hl 3 rfl) ?_
      refine lv_if_ne (tgt := 164) hx hb dM_take_147 rfl (fun h38 => ?_) (fun h38 => ?_)
      · have hE := hE.trans (if_neg h38)
        have hl := lv_sub hl [0, 1, 2, 3] rfl
        exact b164 _ _ _ _ x1 x3 x4 hE hl hP hB hS
      · have hE := hE.trans (if_pos h38)
        refine lv_aload_n hx hb dM_take_150 rfl (lv_at hl 0 rfl) ?_
        refine mget_0_8 hx hb hts inM hown hC hP (hts _ wM_f26) dM_take_151 ?_
        refine lv_iload hx hb dM_take_154 (lv_at hl 4 rfl) ?_
        refine lv_iconst (v := 0) hx hb dM_take_156 (by decide) ?_
        refine mast_5 hx hb hC hP hS (vin_c (by decide)) dM_take_157 (fun σ39 H locs e39 hP hS => ?_)
        have hE := hE.trans (bd_e e39)
        have hB : MB σ39 := by rw [e39]; exact hB
        refine lv_iinc (k := 4) (v := 1) (lv' := [(5, .int 1), (0, .ref (q 0)), (1, .int x1), (3, .int x3), (4, .int x4)]) hx hb dM_take_158 hl rfl (by decide) (by decide) rfl (fun ls hl => ?_)
        refine lv_goto (tgt := 134) hx hb dM_take_161 rfl ?_
        have hl := lv_sub hl [1, 2, 3, 4, 0] rfl
        exact b134_1 _ _ _ _ x1 x3 x4 hE hl hP hB hS
  have b129_6 : ∀ (H : Heap) (locs : List Loc) (ls : Array Slot) (σ : St) (x1 : Int32) (x3 : Int32) (x4 : Int32) (y0 : Int32) (y1 : Int32), m_take σ0 a1 a2 = m_take_129_6 σ x1 x3 x4 y0 y1 → lv_has ls 6 [(0, .ref (q 0)), (1, .int x1), (3, .int x3), (4, .int x4)] → va_P D vwCl (wsM q cA σ) H → MB σ → va_S (MA q) s.heap H locs → W p l e (headSpec wsM_take { frames := 4, cells := 0, slots := 0, locals := 90 }).room s m ([.ref (q 0), .int a1, .int a2] : List Value).toArray below meth c H locs 0 0 (MQ below (va_Qv (fun u => u = m_take σ0 a1 a2) (MPost D q cA) (MA q)) ([.ref (q 0), .int a1, .int a2] : List Value).toArray s 0 0 (MA q)) (F0 m 129 ls [.int y0, .int y1, .int 6, .ref (q 5)]) := by
    intro H locs ls σ x1 x3 x4 y0 y1 hE hl hP hB hS
    refine lv_iadd hx hb dM_take_129 ?_
    refine mast_5 hx hb hC hP hS (vin_c (by decide)) dM_take_130 (fun σ26 H locs e26 hP hS => ?_)
    have hE := hE.trans (bd_e e26)
    have hB : MB σ26 := by rw [e26]; exact hB
    refine lv_iconst (v := 0) hx hb dM_take_131 (by decide) ?_
    refine lv_istore (lv' := [(5, .int 0), (0, .ref (q 0)), (1, .int x1), (3, .int x3), (4, .int x4)]) hx hb dM_take_132 hl (by decide) rfl (fun ls hl => ?_)
    have hl := lv_sub hl [1, 2, 3, 4, 0] rfl
    exact b134_0 _ _ _ _ x1 x3 x4 hE hl hP hB hS
  have b96 : ∀ (H : Heap) (locs : List Loc) (ls : Array Slot) (σ : St) (x1 : Int32) (y0 : Int32), m_take σ0 a1 a2 = m_take_96 σ x1 y0 → lv_has ls 6 [(0, .ref (q 0)), (1, .int x1)] → va_P D vwCl (wsM q cA σ) H → MB σ → va_S (MA q) s.heap H locs → W p l e (headSpec wsM_take { frames := 4, cells := 0, slots := 0, locals := 90 }).room s m ([.ref (q 0), .int a1, .int a2] : List Value).toArray below meth c H locs 0 0 (MQ below (va_Qv (fun u => u = m_take σ0 a1 a2) (MPost D q cA) (MA q)) ([.ref (q 0), .int a1, .int a2] : List Value).toArray s 0 0 (MA q)) (F0 m 96 ls [.int y0]) := by
    intro H locs ls σ x1 y0 hE hl hP hB hS
    refine lv_istore_n (lv' := [(3, .int y0), (0, .ref (q 0)), (1, .int x1)]) hx hb dM_take_96 rfl hl (by decide) rfl (fun ls hl => ?_)
    refine lv_aload_n hx hb dM_take_97 rfl (lv_at hl 1 rfl) ?_
    refine lv_iload_n hx hb dM_take_98 rfl (lv_at hl 2 rfl) ?_
    refine mcalli (rest := []) ⟨hx, hb, hml, hown, hts⟩ hC hP hB hS (c_m_isClosedOne l D q cA σ x1) (cwV 1 hts gM_96 rfl rfl rfl hdM_isClosedOne ⟨Nat.le_of_ble_eq_true rfl, Nat.le_of_ble_eq_true rfl⟩) (mrv_0 hC hP) rfl hl.1 rfl (Nat.le_of_ble_eq_true rfl) dM_take_99 (fun σ23 v24 H locs e23 hP hB hS => ?_)
    have z23 : zb v24 := e23.2
    have hE := hE.trans (bd2_e e23.1)
    refine lv_istore (lv' := [(4, .int v24), (3, .int y0), (0, .ref (q 0)), (1, .int x1)]) hx hb dM_take_102 hl (by decide) rfl (fun ls hl => ?_)
    refine lv_aload_n hx hb dM_take_104 rfl (lv_at hl 2 rfl) ?_
    refine mget_0_8 hx hb hts inM hown hC hP (hts _ wM_f26) dM_take_105 ?_
    refine lv_bipush (v := 6) hx hb dM_take_108 (by decide) ?_
    refine lv_ldc (v := 65408) hx hb hown (hts _ wM_c99) dM_take_110 ?_
    refine lv_bipush (v := 16) hx hb dM_take_112 (by decide) ?_
    refine lv_aload_n hx hb dM_take_114 rfl (lv_at hl 2 rfl) ?_
    refine mget_0_10 hx hb hts inM hown hC hP (hts _ wM_f52) dM_take_115 ?_
    refine lv_imul hx hb dM_take_118 ?_
    refine lv_iadd hx hb dM_take_119 ?_
    refine lv_iload_n hx hb dM_take_120 rfl (lv_at hl 1 rfl) ?_
    refine lv_if_eq (tgt := 128) hx hb dM_take_121 rfl (fun h25 => ?_) (fun h25 => ?_)
    · have hE := hE.trans (if_pos h25)
      refine lv_iconst (v := 0) hx hb dM_take_128 (by decide) ?_
      have hl := lv_sub hl [2, 3, 1, 0] rfl
      exact b129_6 _ _ _ _ x1 y0 v24 0 (65408 + (16 * (σ23 0 10))) hE hl hP hB hS
    · have hE := hE.trans (if_neg h25)
      refine lv_iconst (v := 1) hx hb dM_take_124 (by decide) ?_
      refine lv_goto (tgt := 129) hx hb dM_take_125 rfl ?_
      have hl := lv_sub hl [2, 3, 1, 0] rfl
      exact b129_6 _ _ _ _ x1 y0 v24 1 (65408 + (16 * (σ23 0 10))) hE hl hP hB hS
  have b33_6 : ∀ (H : Heap) (locs : List Loc) (ls : Array Slot) (σ : St) (x1 : Int32), m_take σ0 a1 a2 = m_take_33_6 σ x1 → lv_has ls 6 [(0, .ref (q 0)), (1, .int x1), (3, .int 6)] → va_P D vwCl (wsM q cA σ) H → MB σ → va_S (MA q) s.heap H locs → W p l e (headSpec wsM_take { frames := 4, cells := 0, slots := 0, locals := 90 }).room s m ([.ref (q 0), .int a1, .int a2] : List Value).toArray below meth c H locs 0 0 (MQ below (va_Qv (fun u => u = m_take σ0 a1 a2) (MPost D q cA) (MA q)) ([.ref (q 0), .int a1, .int a2] : List Value).toArray s 0 0 (MA q)) (F0 m 33 ls []) := by
    intro H locs ls σ x1 hE hl hP hB hS
    refine lv_iload_n hx hb dM_take_33 rfl (lv_at hl 2 rfl) ?_
    refine lv_bipush (v := 6) hx hb dM_take_34 (by decide) ?_
    refine lv_icmp_ge (tgt := 55) hx hb dM_take_36 rfl (fun _ => ?_) (fun h17 => absurd (by decide) h17)
    refine lv_aload_n hx hb dM_take_55 rfl (lv_at hl 0 rfl) ?_
    refine lv_sipush (v := 1000) hx hb dM_take_56 (by decide) ?_
    refine lv_aload_n hx hb dM_take_59 rfl (lv_at hl 0 rfl) ?_
    refine mget_0_10 hx hb hts inM hown hC hP (hts _ wM_f52) dM_take_60 ?_
    refine lv_iadd hx hb dM_take_63 ?_
    refine mcallv (rest := []) ⟨hx, hb, hml, hown, hts⟩ hC hP hB hS (c_m_push l D q cA σ (1000 + (σ 0 10))) (cwV 1 hts gM_90 rfl rfl rfl hdM_push ⟨Nat.le_of_ble_eq_true rfl, Nat.le_of_ble_eq_true rfl⟩) (mrv_0 hC hP) rfl hl.1 rfl (Nat.le_of_ble_eq_true rfl) dM_take_64 (fun σ18 H locs e18 hP hB hS => ?_)
    have hE := hE.trans (bd_e e18)
    refine lv_aload_n hx hb dM_take_67 rfl (lv_at hl 0 rfl) ?_
    refine mget_0_14 hx hb hts inM hown hC hP (hts _ wM_f58) dM_take_68 ?_
    refine lv_if_eq (tgt := 84) hx hb dM_take_71 rfl (fun h19 => ?_) (fun h19 => ?_)
    · have hE := hE.trans (if_pos h19)
      refine lv_aload_n hx hb dM_take_84 rfl (lv_at hl 0 rfl) ?_
      refine mcalli (rest := []) ⟨hx, hb, hml, hown, hts⟩ hC hP hB hS (c_m_isOpenWorld l D q cA σ18) (cwV 0 hts gM_61 rfl rfl rfl hdM_isOpenWorld ⟨Nat.le_of_ble_eq_true rfl, Nat.le_of_ble_eq_true rfl⟩) (mrv_0 hC hP) rfl hl.1 rfl (Nat.le_of_ble_eq_true rfl) dM_take_85 (fun σ20 v21 H locs e20 hP hB hS => ?_)
      have z20 : zb v21 := e20.2
      have hE := hE.trans (bd2_e e20.1)
      refine lv_if_ne (tgt := 95) hx hb dM_take_88 rfl (fun h22 => ?_) (fun h22 => ?_)
      · have hE := hE.trans (if_neg h22)
        refine lv_iconst (v := 0) hx hb dM_take_95 (by decide) ?_
        have hl := lv_sub hl [0, 1] rfl
        exact b96 _ _ _ _ x1 0 hE hl hP hB hS
      · have hE := hE.trans (if_pos h22)
        refine lv_iconst (v := 1) hx hb dM_take_91 (by decide) ?_
        refine lv_goto (tgt := 96) hx hb dM_take_92 rfl ?_
        have hl := lv_sub hl [0, 1] rfl
        exact b96 _ _ _ _ x1 1 hE hl hP hB hS
    · have hE := hE.trans (if_neg h19)
      refine lv_aload_n hx hb dM_take_74 rfl (lv_at hl 0 rfl) ?_
      refine mcallv (rest := []) ⟨hx, hb, hml, hown, hts⟩ hC hP hB hS (c_m_takeBack l D q cA σ18) (cwV 0 hts gM_93 rfl rfl rfl hdM_takeBack ⟨Nat.le_of_ble_eq_true rfl, Nat.le_of_ble_eq_true rfl⟩) (mrv_0 hC hP) rfl hl.1 rfl (Nat.le_of_ble_eq_true rfl) dM_take_75 (fun σ61 H locs e61 hP hB hS => ?_)
      have hE := hE.trans (bd_e e61)
      refine lv_aload_n hx hb dM_take_78 rfl (lv_at hl 0 rfl) ?_
      refine lv_iconst (v := 2) hx hb dM_take_79 (by decide) ?_
      refine mput_0_11 hx hb hts inM hown hC hP (hts _ wM_f49) hS dM_take_80 (fun σ62 H locs e62 hP hS => ?_)
      have hE := hE.trans (bd_e e62)
      have hB : MB σ62 := by rw [e62]; exact hB
      exact W.vret hx hb hr (fun t ht hW => ⟨⟨σ62, rfl, hE.symm, ⟨by rw [ht]; exact hP, hB⟩⟩, hS.F ht⟩) hS.2.2 dM_take_83
  have b33_5 : ∀ (H : Heap) (locs : List Loc) (ls : Array Slot) (σ : St) (x1 : Int32), m_take σ0 a1 a2 = m_take_33_5 σ x1 → lv_has ls 6 [(0, .ref (q 0)), (1, .int x1), (3, .int 5)] → va_P D vwCl (wsM q cA σ) H → MB σ → va_S (MA q) s.heap H locs → W p l e (headSpec wsM_take { frames := 4, cells := 0, slots := 0, locals := 90 }).room s m ([.ref (q 0), .int a1, .int a2] : List Value).toArray below meth c H locs 0 0 (MQ below (va_Qv (fun u => u = m_take σ0 a1 a2) (MPost D q cA) (MA q)) ([.ref (q 0), .int a1, .int a2] : List Value).toArray s 0 0 (MA q)) (F0 m 33 ls []) := by
    intro H locs ls σ x1 hE hl hP hB hS
    refine lv_iload_n hx hb dM_take_33 rfl (lv_at hl 2 rfl) ?_
    refine lv_bipush (v := 6) hx hb dM_take_34 (by decide) ?_
    refine lv_icmp_ge (tgt := 55) hx hb dM_take_36 rfl (fun h15 => absurd h15 (by decide)) (fun _ => ?_)
    refine lv_aload_n hx hb dM_take_39 rfl (lv_at hl 0 rfl) ?_
    refine lv_aload_n hx hb dM_take_40 rfl (lv_at hl 0 rfl) ?_
    refine mget_0_8 hx hb hts inM hown hC hP (hts _ wM_f26) dM_take_41 ?_
    refine lv_iload_n hx hb dM_take_44 rfl (lv_at hl 2 rfl) ?_
    refine mald_5 hx hb hC hP (vin_c (by decide)) dM_take_45 ?_
    refine mcallv (rest := []) ⟨hx, hb, hml, hown, hts⟩ hC hP hB hS (c_m_push l D q cA σ (σ 5 (ix 5))) (cwV 1 hts gM_90 rfl rfl rfl hdM_push ⟨Nat.le_of_ble_eq_true rfl, Nat.le_of_ble_eq_true rfl⟩) (mrv_0 hC hP) rfl hl.1 rfl (Nat.le_of_ble_eq_true rfl) dM_take_46 (fun σ16 H locs e16 hP hB hS => ?_)
    have hE := hE.trans (bd_e e16)
    refine lv_iinc (k := 2) (v := 6) (lv' := [(3, .int 6), (0, .ref (q 0)), (1, .int x1)]) hx hb dM_take_49 hl rfl (by decide) (by decide) rfl (fun ls hl => ?_)
    refine lv_goto (tgt := 33) hx hb dM_take_52 rfl ?_
    have hl := lv_sub hl [1, 2, 0] rfl
    exact b33_6 _ _ _ _ x1 hE hl hP hB hS
  have b33_4 : ∀ (H : Heap) (locs : List Loc) (ls : Array Slot) (σ : St) (x1 : Int32), m_take σ0 a1 a2 = m_take_33_4 σ x1 → lv_has ls 6 [(0, .ref (q 0)), (1, .int x1), (3, .int 4)] → va_P D vwCl (wsM q cA σ) H → MB σ → va_S (MA q) s.heap H locs → W p l e (headSpec wsM_take { frames := 4, cells := 0, slots := 0, locals := 90 }).room s m ([.ref (q 0), .int a1, .int a2] : List Value).toArray below meth c H locs 0 0 (MQ below (va_Qv (fun u => u = m_take σ0 a1 a2) (MPost D q cA) (MA q)) ([.ref (q 0), .int a1, .int a2] : List Value).toArray s 0 0 (MA q)) (F0 m 33 ls []) := by
    intro H locs ls σ x1 hE hl hP hB hS
    refine lv_iload_n hx hb dM_take_33 rfl (lv_at hl 2 rfl) ?_
    refine lv_bipush (v := 6) hx hb dM_take_34 (by decide) ?_
    refine lv_icmp_ge (tgt := 55) hx hb dM_take_36 rfl (fun h13 => absurd h13 (by decide)) (fun _ => ?_)
    refine lv_aload_n hx hb dM_take_39 rfl (lv_at hl 0 rfl) ?_
    refine lv_aload_n hx hb dM_take_40 rfl (lv_at hl 0 rfl) ?_
    refine mget_0_8 hx hb hts inM hown hC hP (hts _ wM_f26) dM_take_41 ?_
    refine lv_iload_n hx hb dM_take_44 rfl (lv_at hl 2 rfl) ?_
    refine mald_5 hx hb hC hP (vin_c (by decide)) dM_take_45 ?_
    refine mcallv (rest := []) ⟨hx, hb, hml, hown, hts⟩ hC hP hB hS (c_m_push l D q cA σ (σ 5 (ix 4))) (cwV 1 hts gM_90 rfl rfl rfl hdM_push ⟨Nat.le_of_ble_eq_true rfl, Nat.le_of_ble_eq_true rfl⟩) (mrv_0 hC hP) rfl hl.1 rfl (Nat.le_of_ble_eq_true rfl) dM_take_46 (fun σ14 H locs e14 hP hB hS => ?_)
    have hE := hE.trans (bd_e e14)
    refine lv_iinc (k := 2) (v := 5) (lv' := [(3, .int 5), (0, .ref (q 0)), (1, .int x1)]) hx hb dM_take_49 hl rfl (by decide) (by decide) rfl (fun ls hl => ?_)
    refine lv_goto (tgt := 33) hx hb dM_take_52 rfl ?_
    have hl := lv_sub hl [1, 2, 0] rfl
    exact b33_5 _ _ _ _ x1 hE hl hP hB hS
  have b33_3 : ∀ (H : Heap) (locs : List Loc) (ls : Array Slot) (σ : St) (x1 : Int32), m_take σ0 a1 a2 = m_take_33_3 σ x1 → lv_has ls 6 [(0, .ref (q 0)), (1, .int x1), (3, .int 3)] → va_P D vwCl (wsM q cA σ) H → MB σ → va_S (MA q) s.heap H locs → W p l e (headSpec wsM_take { frames := 4, cells := 0, slots := 0, locals := 90 }).room s m ([.ref (q 0), .int a1, .int a2] : List Value).toArray below meth c H locs 0 0 (MQ below (va_Qv (fun u => u = m_take σ0 a1 a2) (MPost D q cA) (MA q)) ([.ref (q 0), .int a1, .int a2] : List Value).toArray s 0 0 (MA q)) (F0 m 33 ls []) := by
    intro H locs ls σ x1 hE hl hP hB hS
    refine lv_iload_n hx hb dM_take_33 rfl (lv_at hl 2 rfl) ?_
    refine lv_bipush (v := 6) hx hb dM_take_34 (by decide) ?_
    refine lv_icmp_ge (tgt := 55) hx hb dM_take_36 rfl (fun h11 => absurd h11 (by decide)) (fun _ => ?_)
    refine lv_aload_n hx hb dM_take_39 rfl (lv_at hl 0 rfl) ?_
    refine lv_aload_n hx hb dM_take_40 rfl (lv_at hl 0 rfl) ?_
    refine mget_0_8 hx hb hts inM hown hC hP (hts _ wM_f26) dM_take_41 ?_
    refine lv_iload_n hx hb dM_take_44 rfl (lv_at hl 2 rfl) ?_
    refine mald_5 hx hb hC hP (vin_c (by decide)) dM_take_45 ?_
    refine mcallv (rest := []) ⟨hx, hb, hml, hown, hts⟩ hC hP hB hS (c_m_push l D q cA σ (σ 5 (ix 3))) (cwV 1 hts gM_90 rfl rfl rfl hdM_push ⟨Nat.le_of_ble_eq_true rfl, Nat.le_of_ble_eq_true rfl⟩) (mrv_0 hC hP) rfl hl.1 rfl (Nat.le_of_ble_eq_true rfl) dM_take_46 (fun σ12 H locs e12 hP hB hS => ?_)
    have hE := hE.trans (bd_e e12)
    refine lv_iinc (k := 2) (v := 4) (lv' := [(3, .int 4), (0, .ref (q 0)), (1, .int x1)]) hx hb dM_take_49 hl rfl (by decide) (by decide) rfl (fun ls hl => ?_)
    refine lv_goto (tgt := 33) hx hb dM_take_52 rfl ?_
    have hl := lv_sub hl [1, 2, 0] rfl
    exact b33_4 _ _ _ _ x1 hE hl hP hB hS
  have b33_2 : ∀ (H : Heap) (locs : List Loc) (ls : Array Slot) (σ : St) (x1 : Int32), m_take σ0 a1 a2 = m_take_33_2 σ x1 → lv_has ls 6 [(0, .ref (q 0)), (1, .int x1), (3, .int 2)] → va_P D vwCl (wsM q cA σ) H → MB σ → va_S (MA q) s.heap H locs → W p l e (headSpec wsM_take { frames := 4, cells := 0, slots := 0, locals := 90 }).room s m ([.ref (q 0), .int a1, .int a2] : List Value).toArray below meth c H locs 0 0 (MQ below (va_Qv (fun u => u = m_take σ0 a1 a2) (MPost D q cA) (MA q)) ([.ref (q 0), .int a1, .int a2] : List Value).toArray s 0 0 (MA q)) (F0 m 33 ls []) := by
    intro H locs ls σ x1 hE hl hP hB hS
    refine lv_iload_n hx hb dM_take_33 rfl (lv_at hl 2 rfl) ?_
    refine lv_bipush (v := 6) hx hb dM_take_34 (by decide) ?_
    refine lv_icmp_ge (tgt := 55) hx hb dM_take_36 rfl (fun h9 => absurd h9 (by decide)) (fun _ => ?_)
    refine lv_aload_n hx hb dM_take_39 rfl (lv_at hl 0 rfl) ?_
    refine lv_aload_n hx hb dM_take_40 rfl (lv_at hl 0 rfl) ?_
    refine mget_0_8 hx hb hts inM hown hC hP (hts _ wM_f26) dM_take_41 ?_
    refine lv_iload_n hx hb dM_take_44 rfl (lv_at hl 2 rfl) ?_
    refine mald_5 hx hb hC hP (vin_c (by decide)) dM_take_45 ?_
    refine mcallv (rest := []) ⟨hx, hb, hml, hown, hts⟩ hC hP hB hS (c_m_push l D q cA σ (σ 5 (ix 2))) (cwV 1 hts gM_90 rfl rfl rfl hdM_push ⟨Nat.le_of_ble_eq_true rfl, Nat.le_of_ble_eq_true rfl⟩) (mrv_0 hC hP) rfl hl.1 rfl (Nat.le_of_ble_eq_true rfl) dM_take_46 (fun σ10 H locs e10 hP hB hS => ?_)
    have hE := hE.trans (bd_e e10)
    refine lv_iinc (k := 2) (v := 3) (lv' := [(3, .int 3), (0, .ref (q 0)), (1, .int x1)]) hx hb dM_take_49 hl rfl (by decide) (by decide) rfl (fun ls hl => ?_)
    refine lv_goto (tgt := 33) hx hb dM_take_52 rfl ?_
    have hl := lv_sub hl [1, 2, 0] rfl
    exact b33_3 _ _ _ _ x1 hE hl hP hB hS
  have b33_1 : ∀ (H : Heap) (locs : List Loc) (ls : Array Slot) (σ : St) (x1 : Int32), m_take σ0 a1 a2 = m_take_33_1 σ x1 → lv_has ls 6 [(0, .ref (q 0)), (1, .int x1), (3, .int 1)] → va_P D vwCl (wsM q cA σ) H → MB σ → va_S (MA q) s.heap H locs → W p l e (headSpec wsM_take { frames := 4, cells := 0, slots := 0, locals := 90 }).room s m ([.ref (q 0), .int a1, .int a2] : List Value).toArray below meth c H locs 0 0 (MQ below (va_Qv (fun u => u = m_take σ0 a1 a2) (MPost D q cA) (MA q)) ([.ref (q 0), .int a1, .int a2] : List Value).toArray s 0 0 (MA q)) (F0 m 33 ls []) := by
    intro H locs ls σ x1 hE hl hP hB hS
    refine lv_iload_n hx hb dM_take_33 rfl (lv_at hl 2 rfl) ?_
    refine lv_bipush (v := 6) hx hb dM_take_34 (by decide) ?_
    refine lv_icmp_ge (tgt := 55) hx hb dM_take_36 rfl (fun h7 => absurd h7 (by decide)) (fun _ => ?_)
    refine lv_aload_n hx hb dM_take_39 rfl (lv_at hl 0 rfl) ?_
    refine lv_aload_n hx hb dM_take_40 rfl (lv_at hl 0 rfl) ?_
    refine mget_0_8 hx hb hts inM hown hC hP (hts _ wM_f26) dM_take_41 ?_
    refine lv_iload_n hx hb dM_take_44 rfl (lv_at hl 2 rfl) ?_
    refine mald_5 hx hb hC hP (vin_c (by decide)) dM_take_45 ?_
    refine mcallv (rest := []) ⟨hx, hb, hml, hown, hts⟩ hC hP hB hS (c_m_push l D q cA σ (σ 5 (ix 1))) (cwV 1 hts gM_90 rfl rfl rfl hdM_push ⟨Nat.le_of_ble_eq_true rfl, Nat.le_of_ble_eq_true rfl⟩) (mrv_0 hC hP) rfl hl.1 rfl (Nat.le_of_ble_eq_true rfl) dM_take_46 (fun σ8 H locs e8 hP hB hS => ?_)
    have hE := hE.trans (bd_e e8)
    refine lv_iinc (k := 2) (v := 2) (lv' := [(3, .int 2), (0, .ref (q 0)), (1, .int x1)]) hx hb dM_take_49 hl rfl (by decide) (by decide) rfl (fun ls hl => ?_)
    refine lv_goto (tgt := 33) hx hb dM_take_52 rfl ?_
    have hl := lv_sub hl [1, 2, 0] rfl
    exact b33_2 _ _ _ _ x1 hE hl hP hB hS
  have b33_0 : ∀ (H : Heap) (locs : List Loc) (ls : Array Slot) (σ : St) (x1 : Int32), m_take σ0 a1 a2 = m_take_33_0 σ x1 → lv_has ls 6 [(0, .ref (q 0)), (1, .int x1), (3, .int 0)] → va_P D vwCl (wsM q cA σ) H → MB σ → va_S (MA q) s.heap H locs → W p l e (headSpec wsM_take { frames := 4, cells := 0, slots := 0, locals := 90 }).room s m ([.ref (q 0), .int a1, .int a2] : List Value).toArray below meth c H locs 0 0 (MQ below (va_Qv (fun u => u = m_take σ0 a1 a2) (MPost D q cA) (MA q)) ([.ref (q 0), .int a1, .int a2] : List Value).toArray s 0 0 (MA q)) (F0 m 33 ls []) := by
    intro H locs ls σ x1 hE hl hP hB hS
    refine lv_iload_n hx hb dM_take_33 rfl (lv_at hl 2 rfl) ?_
    refine lv_bipush (v := 6) hx hb dM_take_34 (by decide) ?_
    refine lv_icmp_ge (tgt := 55) hx hb dM_take_36 rfl (fun h5 => absurd h5 (by decide)) (fun _ => ?_)
    refine lv_aload_n hx hb dM_take_39 rfl (lv_at hl 0 rfl) ?_
    refine lv_aload_n hx hb dM_take_40 rfl (lv_at hl 0 rfl) ?_
    refine mget_0_8 hx hb hts inM hown hC hP (hts _ wM_f26) dM_take_41 ?_
    refine lv_iload_n hx hb dM_take_44 rfl (lv_at hl 2 rfl) ?_
    refine mald_5 hx hb hC hP (vin_c (by decide)) dM_take_45 ?_
    refine mcallv (rest := []) ⟨hx, hb, hml, hown, hts⟩ hC hP hB hS (c_m_push l D q cA σ (σ 5 (ix 0))) (cwV 1 hts gM_90 rfl rfl rfl hdM_push ⟨Nat.le_of_ble_eq_true rfl, Nat.le_of_ble_eq_true rfl⟩) (mrv_0 hC hP) rfl hl.1 rfl (Nat.le_of_ble_eq_true rfl) dM_take_46 (fun σ6 H locs e6 hP hB hS => ?_)
    have hE := hE.trans (bd_e e6)
    refine lv_iinc (k := 2) (v := 1) (lv' := [(3, .int 1), (0, .ref (q 0)), (1, .int x1)]) hx hb dM_take_49 hl rfl (by decide) (by decide) rfl (fun ls hl => ?_)
    refine lv_goto (tgt := 33) hx hb dM_take_52 rfl ?_
    have hl := lv_sub hl [1, 2, 0] rfl
    exact b33_1 _ _ _ _ x1 hE hl hP hB hS
  refine lv_aload_n hx hb dM_take_0 rfl (lv_at hl 0 rfl) ?_
  refine mcallv (rest := []) ⟨hx, hb, hml, hown, hts⟩ hC hP hB hS (c_m_keep l D q cA σ0) (cwV 0 hts gM_87 rfl rfl rfl hdM_keep ⟨Nat.le_of_ble_eq_true rfl, Nat.le_of_ble_eq_true rfl⟩) (mrv_0 hC hP) rfl hl.1 rfl (Nat.le_of_ble_eq_true rfl) dM_take_1 (fun σ1 H locs e1 hP hB hS => ?_)
  have hE := hE.trans (bd_e e1)
  refine lv_aload_n hx hb dM_take_4 rfl (lv_at hl 0 rfl) ?_
  refine lv_iload_n hx hb dM_take_5 rfl (lv_at hl 2 rfl) ?_
  refine mcallv (rest := []) ⟨hx, hb, hml, hown, hts⟩ hC hP hB hS (c_m_push l D q cA σ1 a2) (cwV 1 hts gM_90 rfl rfl rfl hdM_push ⟨Nat.le_of_ble_eq_true rfl, Nat.le_of_ble_eq_true rfl⟩) (mrv_0 hC hP) rfl hl.1 rfl (Nat.le_of_ble_eq_true rfl) dM_take_6 (fun σ2 H locs e2 hP hB hS => ?_)
  have hE := hE.trans (bd_e e2)
  refine lv_aload_n hx hb dM_take_9 rfl (lv_at hl 0 rfl) ?_
  refine lv_aload_n hx hb dM_take_10 rfl (lv_at hl 0 rfl) ?_
  refine mget_0_8 hx hb hts inM hown hC hP (hts _ wM_f26) dM_take_11 ?_
  refine lv_bipush (v := 10) hx hb dM_take_14 (by decide) ?_
  refine mald_5 hx hb hC hP (vin_c (by decide)) dM_take_16 ?_
  refine mcallv (rest := []) ⟨hx, hb, hml, hown, hts⟩ hC hP hB hS (c_m_push l D q cA σ2 (σ2 5 (ix 10))) (cwV 1 hts gM_90 rfl rfl rfl hdM_push ⟨Nat.le_of_ble_eq_true rfl, Nat.le_of_ble_eq_true rfl⟩) (mrv_0 hC hP) rfl hl.1 rfl (Nat.le_of_ble_eq_true rfl) dM_take_17 (fun σ3 H locs e3 hP hB hS => ?_)
  have hE := hE.trans (bd_e e3)
  refine lv_aload_n hx hb dM_take_20 rfl (lv_at hl 0 rfl) ?_
  refine lv_aload_n hx hb dM_take_21 rfl (lv_at hl 0 rfl) ?_
  refine mget_0_8 hx hb hts inM hown hC hP (hts _ wM_f26) dM_take_22 ?_
  refine lv_bipush (v := 6) hx hb dM_take_25 (by decide) ?_
  refine mald_5 hx hb hC hP (vin_c (by decide)) dM_take_27 ?_
  refine mcallv (rest := []) ⟨hx, hb, hml, hown, hts⟩ hC hP hB hS (c_m_push l D q cA σ3 (σ3 5 (ix 6))) (cwV 1 hts gM_90 rfl rfl rfl hdM_push ⟨Nat.le_of_ble_eq_true rfl, Nat.le_of_ble_eq_true rfl⟩) (mrv_0 hC hP) rfl hl.1 rfl (Nat.le_of_ble_eq_true rfl) dM_take_28 (fun σ4 H locs e4 hP hB hS => ?_)
  have hE := hE.trans (bd_e e4)
  refine lv_iconst (v := 0) hx hb dM_take_31 (by decide) ?_
  refine lv_istore_n (lv' := [(3, .int 0), (0, .ref (q 0)), (1, .int a1), (2, .int a2)]) hx hb dM_take_32 rfl hl (by decide) rfl (fun ls hl => ?_)
  have hl := lv_sub hl [1, 2, 0] rfl
  exact b33_0 _ _ _ _ a1 hE hl hP hB hS
