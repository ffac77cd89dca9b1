set_option maxRecDepth 100000 in
set_option maxHeartbeats 4000000 in
theorem c_k_call (l : Launch) (D : va_G) (q : Nat → Nat) (cA : ClassId) (tN : Nat) (σ0 : St) (a1 : Int32) : Met l yK_call wsK_call { frames := 1, cells := 0, slots := 0, locals := 21 } (va_Pc [.ref (q 0), .int a1] (KPre D q cA tN σ0)) (va_Qv (fun u => u = k_call σ0 a1) (KPost D q cA) (KA q)) 0 0 (KA q) := by
  refine Met.ofW (cc := cK_call) (maxL := 2) (ret := none) (by decide) rfl ?_
  intro p e s m args below meth c s₁ B hml hv
  obtain ⟨rfl, hP, hB, hC⟩ := hv
  have hx := B.exec
  have hb := B.bytes
  have hr := B.returns
  have hts : ∀ w ∈ gw, w.before ([.ref (q 0), .int a1] : List Value).toArray s = true := fun w h => atoms_spec (ws := wsK_call) B.pre w (List.mem_cons_of_mem _ h)
  have hown : s.vm.findClass RK = some m.cls := findClass_of_methodNamed B.named
  have hlocks := B.notSynchronized
  have hS : va_S (KA q) s.heap s.heap [] := va_S.rf
  have hl := lv_entry ([.ref (q 0), .int a1]) (n := 2) (Nat.le_of_ble_eq_true rfl)
  rw [lg_entry_eq]
  generalize (lg_sl ([.ref (q 0), .int a1]) ++ List.replicate (2 - (lg_sl ([.ref (q 0), .int a1])).length) Slot.unset).toArray = ls at hl ⊢
  have hl : lv_has ls 2 [(0, .ref (q 0)), (1, .int a1)] := hl
  have hE : k_call σ0 a1 = k_call σ0 a1 := rfl
  refine lv_aload_n hx hb dK_call_0 rfl (lv_at hl 0 rfl) ?_
  refine kget_0_5 hx hb hts inK hown hC hP (hts _ wK_f28) dK_call_1 ?_
  refine kget_6_0 hx hb hts inQ hown hC hP (hts _ wK_f82) dK_call_4 ?_
  refine lv_bipush (v := 6) hx hb dK_call_7 (by decide) ?_
  refine lv_aload_n hx hb dK_call_9 rfl (lv_at hl 0 rfl) ?_
  refine kget_0_5 hx hb hts inK hown hC hP (hts _ wK_f28) dK_call_10 ?_
  refine kget_6_3 hx hb hts inQ hown hC hP (hts _ wK_f61) dK_call_13 ?_
  refine kast_8 hx hb hC hP hS (vin_c (by decide)) dK_call_16 (fun σ1 H locs e1 hP hS => ?_)
  have hE := hE.trans (bd_e e1)
  have hB : KB σ1 := by rw [e1]; exact hB
  refine lv_aload_n hx hb dK_call_17 rfl (lv_at hl 0 rfl) ?_
  refine lv_iload_n hx hb dK_call_18 rfl (lv_at hl 1 rfl) ?_
  refine kcallv (rest := []) ⟨hx, hb, hml, hown, hts⟩ hC hP hB hS (c_k_goTo l D q cA tN σ1 a1) (cwV 1 hts gK_111 rfl rfl rfl hdK_goTo ⟨Nat.le_of_ble_eq_true rfl, Nat.le_of_ble_eq_true rfl⟩) (krv_0 hC hP) rfl hl.1 rfl (Nat.le_of_ble_eq_true rfl) dK_call_19 (fun σ2 H locs e2 hP hB hS => ?_)
  have hE := hE.trans (bd_e e2)
  exact W.vret hx hb hr (fun t ht hW => ⟨⟨σ2, rfl, hE.symm, ⟨by rw [ht]; exact hP, hB⟩⟩, hS.F ht⟩) hS.2.2 dK_call_22
set_option maxRecDepth 100000 in
set_option maxHeartbeats 4000000 in
theorem c_k_goOut (l : Launch) (D : va_G) (q : Nat → Nat) (cA : ClassId) (tN : Nat) (σ0 : St) (a1 : Int32) : Met l yK_goOut wsK_goOut { frames := 1, cells := 0, slots := 0, locals := 21 } (va_Pc [.ref (q 0), .int a1] (KPre D q cA tN σ0)) (va_Qv (fun u => u = k_goOut σ0 a1) (KPost D q cA) (KA q)) 0 0 (KA q) := by
  refine Met.ofW (cc := cK_goOut) (maxL := 2) (ret := none) (by decide) rfl ?_
  intro p e s m args below meth c s₁ B hml hv
  obtain ⟨rfl, hP, hB, hC⟩ := hv
  have hx := B.exec
  have hb := B.bytes
  have hr := B.returns
  have hts : ∀ w ∈ gw, w.before ([.ref (q 0), .int a1] : List Value).toArray s = true := fun w h => atoms_spec (ws := wsK_goOut) B.pre w (List.mem_cons_of_mem _ h)
  have hown : s.vm.findClass RK = some m.cls := findClass_of_methodNamed B.named
  have hlocks := B.notSynchronized
  have hS : va_S (KA q) s.heap s.heap [] := va_S.rf
  have hl := lv_entry ([.ref (q 0), .int a1]) (n := 2) (Nat.le_of_ble_eq_true rfl)
  rw [lg_entry_eq]
  generalize (lg_sl ([.ref (q 0), .int a1]) ++ List.replicate (2 - (lg_sl ([.ref (q 0), .int a1])).length) Slot.unset).toArray = ls at hl ⊢
  have hl : lv_has ls 2 [(0, .ref (q 0)), (1, .int a1)] := hl
  have hE : k_goOut σ0 a1 = k_goOut σ0 a1 := rfl
  refine lv_aload_n hx hb dK_goOut_0 rfl (lv_at hl 0 rfl) ?_
  refine kget_0_5 hx hb hts inK hown hC hP (hts _ wK_f28) dK_goOut_1 ?_
  refine lv_iconst (v := 1) hx hb dK_goOut_4 (by decide) ?_
  refine kput_6_5 hx hb hts inQ hown hC hP (hts _ wK_f64) hS (by decide) dK_goOut_5 (fun σ1 H locs e1 hP hS => ?_)
  have hE := hE.trans (bd_e e1)
  have hB : KB σ1 := by rw [e1]; exact KB_6_5s hB (by decide)
  refine lv_aload_n hx hb dK_goOut_8 rfl (lv_at hl 0 rfl) ?_
  refine lv_iload_n hx hb dK_goOut_9 rfl (lv_at hl 1 rfl) ?_
  refine kcallv (rest := []) ⟨hx, hb, hml, hown, hts⟩ hC hP hB hS (c_k_goTo l D q cA tN σ1 a1) (cwV 1 hts gK_111 rfl rfl rfl hdK_goTo ⟨Nat.le_of_ble_eq_true rfl, Nat.le_of_ble_eq_true rfl⟩) (krv_0 hC hP) rfl hl.1 rfl (Nat.le_of_ble_eq_true rfl) dK_goOut_10 (fun σ2 H locs e2 hP hB hS => ?_)
  have hE := hE.trans (bd_e e2)
  exact W.vret hx hb hr (fun t ht hW => ⟨⟨σ2, rfl, hE.symm, ⟨by rw [ht]; exact hP, hB⟩⟩, hS.F ht⟩) hS.2.2 dK_goOut_13
set_option maxRecDepth 100000 in
set_option maxHeartbeats 4000000 in
theorem c_k_callOut (l : Launch) (D : va_G) (q : Nat → Nat) (cA : ClassId) (tN : Nat) (σ0 : St) (a1 : Int32) : Met l yK_callOut wsK_callOut { frames := 2, cells := 0, slots := 0, locals := 45 } (va_Pc [.ref (q 0), .int a1] (KPre D q cA tN σ0)) (va_Qv (fun u => u = k_callOut σ0 a1) (KPost D q cA) (KA q)) 0 0 (KA q) := by
  refine Met.ofW (cc := cK_callOut) (maxL := 2) (ret := none) (by decide) rfl ?_
  intro p e s m args below meth c s₁ B hml hv
  obtain ⟨rfl, hP, hB, hC⟩ := hv
  have hx := B.exec
  have hb := B.bytes
  have hr := B.returns
  have hts : ∀ w ∈ gw, w.before ([.ref (q 0), .int a1] : List Value).toArray s = true := fun w h => atoms_spec (ws := wsK_callOut) B.pre w (List.mem_cons_of_mem _ h)
  have hown : s.vm.findClass RK = some m.cls := findClass_of_methodNamed B.named
  have hlocks := B.notSynchronized
  have hS : va_S (KA q) s.heap s.heap [] := va_S.rf
  have hl := lv_entry ([.ref (q 0), .int a1]) (n := 2) (Nat.le_of_ble_eq_true rfl)
  rw [lg_entry_eq]
  generalize (lg_sl ([.ref (q 0), .int a1]) ++ List.replicate (2 - (lg_sl ([.ref (q 0), .int a1])).length) Slot.unset).toArray = ls at hl ⊢
  have hl : lv_has ls 2 [(0, .ref (q 0)), (1, .int a1)] := hl
  have hE : k_callOut σ0 a1 = k_callOut σ0 a1 := rfl
  refine lv_aload_n hx hb dK_callOut_0 rfl (lv_at hl 0 rfl) ?_
  refine lv_aload_n hx hb dK_callOut_1 rfl (lv_at hl 0 rfl) ?_
  refine kget_0_5 hx hb hts inK hown hC hP (hts _ wK_f28) dK_callOut_2 ?_
  refine kget_6_3 hx hb hts inQ hown hC hP (hts _ wK_f61) dK_callOut_5 ?_
  refine kcallv (rest := []) ⟨hx, hb, hml, hown, hts⟩ hC hP hB hS (c_k_push l D q cA tN σ0 (σ0 6 3)) (cwV 1 hts gK_138 rfl rfl rfl hdK_push ⟨Nat.le_of_ble_eq_true rfl, Nat.le_of_ble_eq_true rfl⟩) (krv_0 hC hP) rfl hl.1 rfl (Nat.le_of_ble_eq_true rfl) dK_callOut_8 (fun σ1 H locs e1 hP hB hS => ?_)
  have hE := hE.trans (bd_e e1)
  refine lv_aload_n hx hb dK_callOut_11 rfl (lv_at hl 0 rfl) ?_
  refine lv_sipush (v := 4096) hx hb dK_callOut_12 (by decide) ?_
  refine kcallv (rest := []) ⟨hx, hb, hml, hown, hts⟩ hC hP hB hS (c_k_push l D q cA tN σ1 4096) (cwV 1 hts gK_138 rfl rfl rfl hdK_push ⟨Nat.le_of_ble_eq_true rfl, Nat.le_of_ble_eq_true rfl⟩) (krv_0 hC hP) rfl hl.1 rfl (Nat.le_of_ble_eq_true rfl) dK_callOut_15 (fun σ2 H locs e2 hP hB hS => ?_)
  have hE := hE.trans (bd_e e2)
  refine lv_aload_n hx hb dK_callOut_18 rfl (lv_at hl 0 rfl) ?_
  refine kget_0_5 hx hb hts inK hown hC hP (hts _ wK_f28) dK_callOut_19 ?_
  refine kget_6_0 hx hb hts inQ hown hC hP (hts _ wK_f82) dK_callOut_22 ?_
  refine lv_bipush (v := 6) hx hb dK_callOut_25 (by decide) ?_
  refine lv_ldc (v := 65520) hx hb hown (hts _ wK_c156) dK_callOut_27 ?_
  refine kast_8 hx hb hC hP hS (vin_c (by decide)) dK_callOut_29 (fun σ3 H locs e3 hP hS => ?_)
  have hE := hE.trans (bd_e e3)
  have hB : KB σ3 := by rw [e3]; exact hB
  refine lv_aload_n hx hb dK_callOut_30 rfl (lv_at hl 0 rfl) ?_
  refine lv_iload_n hx hb dK_callOut_31 rfl (lv_at hl 1 rfl) ?_
  refine kcallv (rest := []) ⟨hx, hb, hml, hown, hts⟩ hC hP hB hS (c_k_goOut l D q cA tN σ3 a1) (cwV 1 hts gK_147 rfl rfl rfl hdK_goOut ⟨Nat.le_of_ble_eq_true rfl, Nat.le_of_ble_eq_true rfl⟩) (krv_0 hC hP) rfl hl.1 rfl (Nat.le_of_ble_eq_true rfl) dK_callOut_32 (fun σ4 H locs e4 hP hB hS => ?_)
  have hE := hE.trans (bd_e e4)
  exact W.vret hx hb hr (fun t ht hW => ⟨⟨σ4, rfl, hE.symm, ⟨by rw [ht]; exact hP, hB⟩⟩, hS.F ht⟩) hS.2.2 dK_callOut_35
set_option maxRecDepth 100000 in
set_option maxHeartbeats 4000000 in
theorem c_k_read (l : Launch) (D : va_G) (q : Nat → Nat) (cA : ClassId) (tN : Nat) (σ0 : St) (a1 : Int32) : Met l yK_read wsK_read { frames := 0, cells := 0, slots := 0, locals := 0 } (va_Pc [.ref (q 0), .int a1] (KPre D q cA tN σ0)) (va_Qi (fun r u => (u, r) = k_read σ0 a1) (KPost D q cA) (KA q)) 0 0 (KA q) := by
  refine Met.ofW (cc := cK_read) (maxL := 3) (ret := (some .int)) (by decide) rfl ?_
  intro p e s m args below meth c s₁ B hml hv
  obtain ⟨rfl, hP, hB, hC⟩ := hv
  have hx := B.exec
  have hb := B.bytes
  have hr := B.returns
  have hts : ∀ w ∈ gw, w.before ([.ref (q 0), .int a1] : List Value).toArray s = true := fun w h => atoms_spec (ws := wsK_read) B.pre w (List.mem_cons_of_mem _ h)
  have hown : s.vm.findClass RK = some m.cls := findClass_of_methodNamed B.named
  have hlocks := B.notSynchronized
  have hS : va_S (KA q) s.heap s.heap [] := va_S.rf
  have hl := lv_entry ([.ref (q 0), .int a1]) (n := 3) (Nat.le_of_ble_eq_true rfl)
  rw [lg_entry_eq]
  generalize (lg_sl ([.ref (q 0), .int a1]) ++ List.replicate (3 - (lg_sl ([.ref (q 0), .int a1])).length) Slot.unset).toArray = ls at hl ⊢
  have hl : lv_has ls 3 [(0, .ref (q 0)), (1, .int a1)] := hl
  have hE : k_read σ0 a1 = k_read σ0 a1 := rfl
  have b33 : ∀ (H : Heap) (locs : List Loc) (ls : Array Slot) (σ : St) (x2 : Int32), vp_in x2 256 → k_read σ0 a1 = k_read_33 σ x2 → lv_has ls 3 [(0, .ref (q 0)), (2, .int x2)] → va_P D vwCl (wsK q cA σ) H → KB σ → va_S (KA q) s.heap H locs → W p l e (headSpec wsK_read { frames := 0, cells := 0, slots := 0, locals := 0 }).room s m ([.ref (q 0), .int a1] : List Value).toArray below meth c H locs 0 0 (MQ below (va_Qi (fun r u => (u, r) = k_read σ0 a1) (KPost D q cA) (KA q)) ([.ref (q 0), .int a1] : List Value).toArray s 0 0 (KA q)) (F0 m 33 ls []) := by
    intro H locs ls σ x2 hin256_x2 hE hl hP hB hS
    refine lv_aload_n hx hb dK_read_33 rfl (lv_at hl 0 rfl) ?_
    refine kget_0_0 hx hb hts inK hown hC hP (hts _ wK_f9) dK_read_34 ?_
    refine lv_iload_n hx hb dK_read_37 rfl (lv_at hl 1 rfl) ?_
    refine kald_1 hx hb hC hP hin256_x2 dK_read_38 ?_
    exact W.iret (v := (σ 1 (ix x2))) hx hb hr (fun t ht hW => ⟨⟨(σ 1 (ix x2)), σ, rfl, hE.symm, ⟨by rw [ht]; exact hP, hB⟩⟩, hS.F ht⟩) hS.2.2 dK_read_39
  refine lv_iload_n hx hb dK_read_0 rfl (lv_at hl 1 rfl) ?_
  refine lv_sipush (v := 255) hx hb dK_read_1 (by decide) ?_
  refine lv_iand hx hb dK_read_4 ?_
  refine lv_istore_n (lv' := [(2, .int (a1 &&& 255)), (0, .ref (q 0)), (1, .int a1)]) hx hb dK_read_5 rfl hl (by decide) rfl (fun ls hl => ?_)
  refine lv_aload_n hx hb dK_read_6 rfl (lv_at hl 1 rfl) ?_
  refine kget_0_5 hx hb hts inK hown hC hP (hts _ wK_f28) dK_read_7 ?_
  refine kget_6_5 hx hb hts inQ hown hC hP (hts _ wK_f64) dK_read_10 ?_
  have z1 : zb (σ0 6 5) := KB_6_5 hB
  refine lv_if_eq (tgt := 33) hx hb dK_read_13 rfl (fun h2 => ?_) (fun h2 => ?_)
  · have hE := hE.trans (if_pos h2)
    have hl := lv_sub hl [1, 0] rfl
    exact b33 _ _ _ _ (a1 &&& 255) (vin_m 8 (by decide) (by decide) (by decide)) hE hl hP hB hS
  · have hE := hE.trans (if_neg h2)
    refine lv_aload_n hx hb dK_read_16 rfl (lv_at hl 1 rfl) ?_
    refine kget_0_1 hx hb hts inK hown hC hP (hts _ wK_f13) dK_read_17 ?_
    refine lv_iload_n hx hb dK_read_20 rfl (lv_at hl 0 rfl) ?_
    refine kald_2 hx hb hC hP (vin_m 8 (by decide) (by decide) (by decide)) dK_read_21 ?_
    refine lv_iconst (v := 1) hx hb dK_read_22 (by decide) ?_
    refine lv_icmp_eq (tgt := 33) hx hb dK_read_23 rfl (fun h3 => ?_) (fun h3 => ?_)
    · have hE := hE.trans (if_pos h3)
      have hl := lv_sub hl [1, 0] rfl
      exact b33 _ _ _ _ (a1 &&& 255) (vin_m 8 (by decide) (by decide) (by decide)) hE hl hP hB hS
    · have hE := hE.trans (if_neg h3)
      refine lv_aload_n hx hb dK_read_26 rfl (lv_at hl 1 rfl) ?_
      refine lv_iconst (v := 2) hx hb dK_read_27 (by decide) ?_
      refine kput_0_14 hx hb hts inK hown hC hP (hts _ wK_f101) hS dK_read_28 (fun σ4 H locs e4 hP hS => ?_)
      have hE := hE.trans (bd_e e4)
      have hB : KB σ4 := by rw [e4]; exact hB
      refine lv_iconst (v := 0) hx hb dK_read_31 (by decide) ?_
      exact W.iret (v := 0) hx hb hr (fun t ht hW => ⟨⟨0, σ4, rfl, hE.symm, ⟨by rw [ht]; exact hP, hB⟩⟩, hS.F ht⟩) hS.2.2 dK_read_32
set_option maxRecDepth 100000 in
set_option maxHeartbeats 4000000 in
theorem c_k_pop (l : Launch) (D : va_G) (q : Nat → Nat) (cA : ClassId) (tN : Nat) (σ0 : St) : Met l yK_pop wsK_pop { frames := 1, cells := 0, slots := 0, locals := 22 } (va_Pc [.ref (q 0)] (KPre D q cA tN σ0)) (va_Qi (fun r u => (u, r) = k_pop σ0) (KPost D q cA) (KA q)) 0 0 (KA q) := by
  refine Met.ofW (cc := cK_pop) (maxL := 2) (ret := (some .int)) (by decide) rfl ?_
  intro p e s m args below meth c s₁ B hml hv
  obtain ⟨rfl, hP, hB, hC⟩ := hv
  have hx := B.exec
  have hb := B.bytes
  have hr := B.returns
  have hts : ∀ w ∈ gw, w.before ([.ref (q 0)] : List Value).toArray s = true := fun w h => atoms_spec (ws := wsK_pop) B.pre w (List.mem_cons_of_mem _ h)
  have hown : s.vm.findClass RK = some m.cls := findClass_of_methodNamed B.named
  have hlocks := B.notSynchronized
  have hS : va_S (KA q) s.heap s.heap [] := va_S.rf
  have hl := lv_entry ([.ref (q 0)]) (n := 2) (Nat.le_of_ble_eq_true rfl)
  rw [lg_entry_eq]
  generalize (lg_sl ([.ref (q 0)]) ++ List.replicate (2 - (lg_sl ([.ref (q 0)])).length) Slot.unset).toArray = ls at hl ⊢
  have hl : lv_has ls 2 [(0, .ref (q 0))] := hl
  have hE : k_pop σ0 = k_pop σ0 := rfl
  refine lv_aload_n hx hb dK_pop_0 rfl (lv_at hl 0 rfl) ?_
  refine kget_0_5 hx hb hts inK hown hC hP (hts _ wK_f28) dK_pop_1 ?_
  refine kcalli (rest := []) ⟨hx, hb, hml, hown, hts⟩ hC hP hB hS (c_k_stack l D q cA tN σ0) (cwV 0 hts gK_176 rfl rfl rfl hdQ_stack ⟨Nat.le_of_ble_eq_true rfl, Nat.le_of_ble_eq_true rfl⟩) (krv_6 hC hP) rfl hl.1 rfl (Nat.le_of_ble_eq_true rfl) dK_pop_4 (fun σ1 v2 H locs e1 hP hB hS => ?_)
  have hE := hE.trans (bd2_e e1)
  refine lv_istore_n (lv' := [(1, .int v2), (0, .ref (q 0))]) hx hb dK_pop_7 rfl hl (by decide) rfl (fun ls hl => ?_)
  refine lv_aload_n hx hb dK_pop_8 rfl (lv_at hl 1 rfl) ?_
  refine kget_0_5 hx hb hts inK hown hC hP (hts _ wK_f28) dK_pop_9 ?_
  refine lv_iload_n hx hb dK_pop_12 rfl (lv_at hl 0 rfl) ?_
  refine lv_iconst (v := 1) hx hb dK_pop_13 (by decide) ?_
  refine lv_iadd hx hb dK_pop_14 ?_
  refine lv_ldc (v := 65535) hx hb hown (hts _ wK_c39) dK_pop_15 ?_
  refine lv_iand hx hb dK_pop_17 ?_
  refine kcallv (rest := []) ⟨hx, hb, hml, hown, hts⟩ hC hP hB hS (c_k_setStack l D q cA tN σ1 ((v2 + 1) &&& 65535)) (cwV 1 hts gK_179 rfl rfl rfl hdQ_setStack ⟨Nat.le_of_ble_eq_true rfl, Nat.le_of_ble_eq_true rfl⟩) (krv_6 hC hP) rfl hl.1 rfl (Nat.le_of_ble_eq_true rfl) dK_pop_18 (fun σ3 H locs e3 hP hB hS => ?_)
  have hE := hE.trans (bd_e e3)
  refine lv_aload_n hx hb dK_pop_21 rfl (lv_at hl 1 rfl) ?_
  refine lv_iload_n hx hb dK_pop_22 rfl (lv_at hl 0 rfl) ?_
  refine kcalli (rest := []) ⟨hx, hb, hml, hown, hts⟩ hC hP hB hS (c_k_read l D q cA tN σ3 v2) (cwV 1 hts gK_131 rfl rfl rfl hdK_read ⟨Nat.le_of_ble_eq_true rfl, Nat.le_of_ble_eq_true rfl⟩) (krv_0 hC hP) rfl hl.1 rfl (Nat.le_of_ble_eq_true rfl) dK_pop_23 (fun σ4 v5 H locs e4 hP hB hS => ?_)
  have hE := hE.trans (bd2_e e4)
  exact W.iret (v := v5) hx hb hr (fun t ht hW => ⟨⟨v5, σ4, rfl, hE.symm, ⟨by rw [ht]; exact hP, hB⟩⟩, hS.F ht⟩) hS.2.2 dK_pop_26
set_option maxRecDepth 100000 in
set_option maxHeartbeats 4000000 in
theorem c_k_endException (l : Launch) (D : va_G) (q : Nat → Nat) (cA : ClassId) (tN : Nat) (σ0 : St) (a1 : Int32) : Met l yK_endException wsK_endException { frames := 2, cells := 0, slots := 0, locals := 43 } (va_Pc [.ref (q 0), .int a1] (KPre D q cA tN σ0)) (va_Qv (fun u => u = k_endException σ0 a1) (KPost D q cA) (KA q)) 0 0 (KA q) := by
  refine Met.ofW (cc := cK_endException) (maxL := 4) (ret := none) (by decide) rfl ?_
  intro p e s m args below meth c s₁ B hml hv
  obtain ⟨rfl, hP, hB, hC⟩ := hv
  have hx := B.exec
  have hb := B.bytes
  have hr := B.returns
  have hts : ∀ w ∈ gw, w.before ([.ref (q 0), .int a1] : List Value).toArray s = true := fun w h => atoms_spec (ws := wsK_endException) B.pre w (List.mem_cons_of_mem _ h)
  have hown : s.vm.findClass RK = some m.cls := findClass_of_methodNamed B.named
  have hlocks := B.notSynchronized
  have hS : va_S (KA q) s.heap s.heap [] := va_S.rf
  have hl := lv_entry ([.ref (q 0), .int a1]) (n := 4) (Nat.le_of_ble_eq_true rfl)
  rw [lg_entry_eq]
  generalize (lg_sl ([.ref (q 0), .int a1]) ++ List.replicate (4 - (lg_sl ([.ref (q 0), .int a1])).length) Slot.unset).toArray = ls at hl ⊢
  have hl : lv_has ls 4 [(0, .ref (q 0)), (1, .int a1)] := hl
  have hE : k_endException σ0 a1 = k_endException σ0 a1 := rfl
  have b97 : ∀ (H : Heap) (locs : List Loc) (ls : Array Slot) (σ : St) (x2 : Int32) (y0 : Int32), zb y0 → k_endException σ0 a1 = k_endException_97 σ x2 y0 → lv_has ls 4 [(0, .ref (q 0)), (2, .int x2)] → va_P D vwCl (wsK q cA σ) H → KB σ → va_S (KA q) s.heap H locs → W p l e (headSpec wsK_endException { frames := 2, cells := 0, slots := 0, locals := 43 }).room s m ([.ref (q 0), .int a1] : List Value).toArray below meth c H locs 0 0 (MQ below (va_Qv (fun u => u = k_endException σ0 a1) (KPost D q cA) (KA q)) ([.ref (q 0), .int a1] : List Value).toArray s 0 0 (KA q)) (F0 m 97 ls [.int y0, .ref (q 6)]) := by
    intro H locs ls σ x2 y0 hz_y0 hE hl hP hB hS
    refine kput_6_4 hx hb hts inQ hown hC hP (hts _ wK_f88) hS hz_y0 dK_endException_97 (fun σ37 H locs e37 hP hS => ?_)
    have hE := hE.trans (bd_e e37)
    have hB : KB σ37 := by rw [e37]; exact KB_6_4s hB hz_y0
    refine lv_aload_n hx hb dK_endException_100 rfl (lv_at hl 0 rfl) ?_
    refine lv_aload_n hx hb dK_endException_101 rfl (lv_at hl 0 rfl) ?_
    refine kcalli (rest := [.ref (q 0)]) ⟨hx, hb, hml, hown, hts⟩ hC hP hB hS (c_k_pop l D q cA tN σ37) (cwV 0 hts gK_141 rfl rfl rfl hdK_pop ⟨Nat.le_of_ble_eq_true rfl, Nat.le_of_ble_eq_true rfl⟩) (krv_0 hC hP) rfl hl.1 rfl (Nat.le_of_ble_eq_true rfl) dK_endException_102 (fun σ38 v39 H locs e38 hP hB hS => ?_)
    have hE := hE.trans (bd2_e e38)
    refine kcallv (rest := []) ⟨hx, hb, hml, hown, hts⟩ hC hP hB hS (c_k_goTo l D q cA tN σ38 v39) (cwV 1 hts gK_111 rfl rfl rfl hdK_goTo ⟨Nat.le_of_ble_eq_true rfl, Nat.le_of_ble_eq_true rfl⟩) (krv_0 hC hP) rfl hl.1 rfl (Nat.le_of_ble_eq_true rfl) dK_endException_105 (fun σ40 H locs e40 hP hB hS => ?_)
    have hE := hE.trans (bd_e e40)
    refine lv_aload_n hx hb dK_endException_108 rfl (lv_at hl 0 rfl) ?_
    refine kget_0_5 hx hb hts inK hown hC hP (hts _ wK_f28) dK_endException_109 ?_
    refine lv_iload_n hx hb dK_endException_112 rfl (lv_at hl 1 rfl) ?_
    refine kput_6_6 hx hb hts inQ hown hC hP (hts _ wK_f73) hS dK_endException_113 (fun σ41 H locs e41 hP hS => ?_)
    have hE := hE.trans (bd_e e41)
    have hB : KB σ41 := by rw [e41]; exact hB
    exact W.vret hx hb hr (fun t ht hW => ⟨⟨σ41, rfl, hE.symm, ⟨by rw [ht]; exact hP, hB⟩⟩, hS.F ht⟩) hS.2.2 dK_endException_116
  have b44_n1 : ∀ (H : Heap) (locs : List Loc) (ls : Array Slot) (σ : St) (x2 : Int32), k_endException σ0 a1 = k_endException_44_n1 σ x2 → lv_has ls 4 [(0, .ref (q 0)), (2, .int x2), (3, .int (-1))] → va_P D vwCl (wsK q cA σ) H → KB σ → va_S (KA q) s.heap H locs → W p l e (headSpec wsK_endException { frames := 2, cells := 0, slots := 0, locals := 43 }).room s m ([.ref (q 0), .int a1] : List Value).toArray below meth c H locs 0 0 (MQ below (va_Qv (fun u => u = k_endException σ0 a1) (KPost D q cA) (KA q)) ([.ref (q 0), .int a1] : List Value).toArray s 0 0 (KA q)) (F0 m 44 ls []) := by
    intro H locs ls σ x2 hE hl hP hB hS
    refine lv_iload_n hx hb dK_endException_44 rfl (lv_at hl 2 rfl) ?_
    refine lv_if_lt (tgt := 67) hx hb dK_endException_45 rfl (fun _ => ?_) (fun h30 => absurd (by decide) h30)
    refine lv_aload_n hx hb dK_endException_67 rfl (lv_at hl 0 rfl) ?_
    refine kget_0_5 hx hb hts inK hown hC hP (hts _ wK_f28) dK_endException_68 ?_
    refine kget_6_0 hx hb hts inQ hown hC hP (hts _ wK_f82) dK_endException_71 ?_
    refine lv_bipush (v := 6) hx hb dK_endException_74 (by decide) ?_
    refine lv_aload_n hx hb dK_endException_76 rfl (lv_at hl 0 rfl) ?_
    refine kcalli (rest := [.int 6, .ref (q 8)]) ⟨hx, hb, hml, hown, hts⟩ hC hP hB hS (c_k_pop l D q cA tN σ) (cwV 0 hts gK_141 rfl rfl rfl hdK_pop ⟨Nat.le_of_ble_eq_true rfl, Nat.le_of_ble_eq_true rfl⟩) (krv_0 hC hP) rfl hl.1 rfl (Nat.le_of_ble_eq_true rfl) dK_endException_77 (fun σ31 v32 H locs e31 hP hB hS => ?_)
    have hE := hE.trans (bd2_e e31)
    refine kast_8 hx hb hC hP hS (vin_c (by decide)) dK_endException_80 (fun σ33 H locs e33 hP hS => ?_)
    have hE := hE.trans (bd_e e33)
    have hB : KB σ33 := by rw [e33]; exact hB
    refine lv_aload_n hx hb dK_endException_81 rfl (lv_at hl 0 rfl) ?_
    refine kget_0_5 hx hb hts inK hown hC hP (hts _ wK_f28) dK_endException_82 ?_
    refine lv_aload_n hx hb dK_endException_85 rfl (lv_at hl 0 rfl) ?_
    refine kcalli (rest := [.ref (q 6)]) ⟨hx, hb, hml, hown, hts⟩ hC hP hB hS (c_k_pop l D q cA tN σ33) (cwV 0 hts gK_141 rfl rfl rfl hdK_pop ⟨Nat.le_of_ble_eq_true rfl, Nat.le_of_ble_eq_true rfl⟩) (krv_0 hC hP) rfl hl.1 rfl (Nat.le_of_ble_eq_true rfl) dK_endException_86 (fun σ34 v35 H locs e34 hP hB hS => ?_)
    have hE := hE.trans (bd2_e e34)
    refine lv_if_eq (tgt := 96) hx hb dK_endException_89 rfl (fun h36 => ?_) (fun h36 => ?_)
    · have hE := hE.trans (if_pos h36)
      refine lv_iconst (v := 0) hx hb dK_endException_96 (by decide) ?_
      have hl := lv_sub hl [0, 1] rfl
      exact b97 _ _ _ _ x2 0 (by decide) hE hl hP hB hS
    · have hE := hE.trans (if_neg h36)
      refine lv_iconst (v := 1) hx hb dK_endException_92 (by decide) ?_
      refine lv_goto (tgt := 97) hx hb dK_endException_93 rfl ?_
      have hl := lv_sub hl [0, 1] rfl
      exact b97 _ _ _ _ x2 1 (by decide) hE hl hP hB hS
  have b44_0 : ∀ (H : Heap) (locs : List Loc) (ls : Array Slot) (σ : St) (x2 : Int32), k_endException σ0 a1 = k_endException_44_0 σ x2 → lv_has ls 4 [(0, .ref (q 0)), (2, .int x2), (3, .int 0)] → va_P D vwCl (wsK q cA σ) H → KB σ → va_S (KA q) s.heap H locs → W p l e (headSpec wsK_endException { frames := 2, cells := 0, slots := 0, locals := 43 }).room s m ([.ref (q 0), .int a1] : List Value).toArray below meth c H locs 0 0 (MQ below (va_Qv (fun u => u = k_endException σ0 a1) (KPost D q cA) (KA q)) ([.ref (q 0), .int a1] : List Value).toArray s 0 0 (KA q)) (F0 m 44 ls []) := by
    intro H locs ls σ x2 hE hl hP hB hS
    refine lv_iload_n hx hb dK_endException_44 rfl (lv_at hl 2 rfl) ?_
    refine lv_if_lt (tgt := 67) hx hb dK_endException_45 rfl (fun h26 => absurd h26 (by decide)) (fun _ => ?_)
    refine lv_aload_n hx hb dK_endException_48 rfl (lv_at hl 0 rfl) ?_
    refine kget_0_5 hx hb hts inK hown hC hP (hts _ wK_f28) dK_endException_49 ?_
    refine kget_6_0 hx hb hts inQ hown hC hP (hts _ wK_f82) dK_endException_52 ?_
    refine lv_iload_n hx hb dK_endException_55 rfl (lv_at hl 2 rfl) ?_
    refine lv_aload_n hx hb dK_endException_56 rfl (lv_at hl 0 rfl) ?_
    refine kcalli (rest := [.int 0, .ref (q 8)]) ⟨hx, hb, hml, hown, hts⟩ hC hP hB hS (c_k_pop l D q cA tN σ) (cwV 0 hts gK_141 rfl rfl rfl hdK_pop ⟨Nat.le_of_ble_eq_true rfl, Nat.le_of_ble_eq_true rfl⟩) (krv_0 hC hP) rfl hl.1 rfl (Nat.le_of_ble_eq_true rfl) dK_endException_57 (fun σ27 v28 H locs e27 hP hB hS => ?_)
    have hE := hE.trans (bd2_e e27)
    refine kast_8 hx hb hC hP hS (vin_c (by decide)) dK_endException_60 (fun σ29 H locs e29 hP hS => ?_)
    have hE := hE.trans (bd_e e29)
    have hB : KB σ29 := by rw [e29]; exact hB
    refine lv_iinc (k := 2) (v := (-1)) (lv' := [(3, .int (-1)), (0, .ref (q 0)), (2, .int x2)]) hx hb dK_endException_61 hl rfl (by decide) (by decide) rfl (fun ls hl => ?_)
    refine lv_goto (tgt := 44) hx hb dK_endException_64 rfl ?_
    have hl := lv_sub hl [1, 2, 0] rfl
    exact b44_n1 _ _ _ _ x2 hE hl hP hB hS
  have b44_1 : ∀ (H : Heap) (locs : List Loc) (ls : Array Slot) (σ : St) (x2 : Int32), k_endException σ0 a1 = k_endException_44_1 σ x2 → lv_has ls 4 [(0, .ref (q 0)), (2, .int x2), (3, .int 1)] → va_P D vwCl (wsK q cA σ) H → KB σ → va_S (KA q) s.heap H locs → W p l e (headSpec wsK_endException { frames := 2, cells := 0, slots := 0, locals := 43 }).room s m ([.ref (q 0), .int a1] : List Value).toArray below meth c H locs 0 0 (MQ below (va_Qv (fun u => u = k_endException σ0 a1) (KPost D q cA) (KA q)) ([.ref (q 0), .int a1] : List Value).toArray s 0 0 (KA q)) (F0 m 44 ls []) := by
    intro H locs ls σ x2 hE hl hP hB hS
    refine lv_iload_n hx hb dK_endException_44 rfl (lv_at hl 2 rfl) ?_
    refine lv_if_lt (tgt := 67) hx hb dK_endException_45 rfl (fun h22 => absurd h22 (by decide)) (fun _ => ?_)
    refine lv_aload_n hx hb dK_endException_48 rfl (lv_at hl 0 rfl) ?_
    refine kget_0_5 hx hb hts inK hown hC hP (hts _ wK_f28) dK_endException_49 ?_
    refine kget_6_0 hx hb hts inQ hown hC hP (hts _ wK_f82) dK_endException_52 ?_
    refine lv_iload_n hx hb dK_endException_55 rfl (lv_at hl 2 rfl) ?_
    refine lv_aload_n hx hb dK_endException_56 rfl (lv_at hl 0 rfl) ?_
    refine kcalli (rest := [.int 1, .ref (q 8)]) ⟨hx, hb, hml, hown, hts⟩ hC hP hB hS (c_k_pop l D q cA tN σ) (cwV 0 hts gK_141 rfl rfl rfl hdK_pop ⟨Nat.le_of_ble_eq_true rfl, Nat.le_of_ble_eq_true rfl⟩) (krv_0 hC hP) rfl hl.1 rfl (Nat.le_of_ble_eq_true rfl) dK_endException_57 (fun σ23 v24 H locs e23 hP hB hS => ?_)
    have hE := hE.trans (bd2_e e23)
    refine kast_8 hx hb hC hP hS (vin_c (by decide)) dK_endException_60 (fun σ25 H locs e25 hP hS => ?_)
    have hE := hE.trans (bd_e e25)
    have hB : KB σ25 := by rw [e25]; exact hB
    refine lv_iinc (k := 2) (v := 0) (lv' := [(3, .int 0), (0, .ref (q 0)), (2, .int x2)]) hx hb dK_endException_61 hl rfl (by decide) (by decide) rfl (fun ls hl => ?_)
    refine lv_goto (tgt := 44) hx hb dK_endException_64 rfl ?_
    have hl := lv_sub hl [1, 2, 0] rfl
    exact b44_0 _ _ _ _ x2 hE hl hP hB hS
  have b44_2 : ∀ (H : Heap) (locs : List Loc) (ls : Array Slot) (σ : St) (x2 : Int32), k_endException σ0 a1 = k_endException_44_2 σ x2 → lv_has ls 4 [(0, .ref (q 0)), (2, .int x2), (3, .int 2)] → va_P D vwCl (wsK q cA σ) H → KB σ → va_S (KA q) s.heap H locs → W p l e (headSpec wsK_endException { frames := 2, cells := 0, slots := 0, locals := 43 }).room s m ([.ref (q 0), .int a1] : List Value).toArray below meth c H locs 0 0 (MQ below (va_Qv (fun u => u = k_endException σ0 a1) (KPost D q cA) (KA q)) ([.ref (q 0), .int a1] : List Value).toArray s 0 0 (KA q)) (F0 m 44 ls []) := by
    intro H locs ls σ x2 hE hl hP hB hS
    refine lv_iload_n hx hb dK_endException_44 rfl (lv_at hl 2 rfl) ?_
    refine lv_if_lt (tgt := 67) hx hb dK_endException_45 rfl (fun h18 => absurd h18 (by decide)) (fun _ => ?_)
    refine lv_aload_n hx hb dK_endException_48 rfl (lv_at hl 0 rfl) ?_
    refine kget_0_5 hx hb hts inK hown hC hP (hts _ wK_f28) dK_endException_49 ?_
    refine kget_6_0 hx hb hts inQ hown hC hP (hts _ wK_f82) dK_endException_52 ?_
    refine lv_iload_n hx hb dK_endException_55 rfl (lv_at hl 2 rfl) ?_
    refine lv_aload_n hx hb dK_endException_56 rfl (lv_at hl 0 rfl) ?_
    refine kcalli (rest := [.int 2, .ref (q 8)]) ⟨hx, hb, hml, hown, hts⟩ hC hP hB hS (c_k_pop l D q cA tN σ) (cwV 0 hts gK_141 rfl rfl rfl hdK_pop ⟨Nat.le_of_ble_eq_true rfl, Nat.le_of_ble_eq_true rfl⟩) (krv_0 hC hP) rfl hl.1 rfl (Nat.le_of_ble_eq_true rfl) dK_endException_57 (fun σ19 v20 H locs e19 hP hB hS => ?_)
    have hE := hE.trans (bd2_e e19)
    refine kast_8 hx hb hC hP hS (vin_c (by decide)) dK_endException_60 (fun σ21 H locs e21 hP hS => ?_)
    have hE := hE.trans (bd_e e21)
    have hB : KB σ21 := by rw [e21]; exact hB
    refine lv_iinc (k := 2) (v := 1) (lv' := [(3, .int 1), (0, .ref (q 0)), (2, .int x2)]) hx hb dK_endException_61 hl rfl (by decide) (by decide) rfl (fun ls hl => ?_)
    refine lv_goto (tgt := 44) hx hb dK_endException_64 rfl ?_
    have hl := lv_sub hl [1, 2, 0] rfl
    exact b44_1 _ _ _ _ x2 hE hl hP hB hS
  have b44_3 : ∀ (H : Heap) (locs : List Loc) (ls : Array Slot) (σ : St) (x2 : Int32), k_endException σ0 a1 = k_endException_44_3 σ x2 → lv_has ls 4 [(0, .ref (q 0)), (2, .int x2), (3, .int 3)] → va_P D vwCl (wsK q cA σ) H → KB σ → va_S (KA q) s.heap H locs → W p l e (headSpec wsK_endException { frames := 2, cells := 0, slots := 0, locals := 43 }).room s m ([.ref (q 0), .int a1] : List Value).toArray below meth c H locs 0 0 (MQ below (va_Qv (fun u => u = k_endException σ0 a1) (KPost D q cA) (KA q)) ([.ref (q 0), .int a1] : List Value).toArray s 0 0 (KA q)) (F0 m 44 ls []) := by
    intro H locs ls σ x2 hE hl hP hB hS
    refine lv_iload_n hx hb dK_endException_44 rfl (lv_at hl 2 rfl) ?_
    refine lv_if_lt (tgt := 67) hx hb dK_endException_45 rfl (fun h14 => absurd h14 (by decide)) (fun _ => ?_)
    refine lv_aload_n hx hb dK_endException_48 rfl (lv_at hl 0 rfl) ?_
    refine kget_0_5 hx hb hts inK hown hC hP (hts _ wK_f28) dK_endException_49 ?_
    refine kget_6_0 hx hb hts inQ hown hC hP (hts _ wK_f82) dK_endException_52 ?_
    refine lv_iload_n hx hb dK_endException_55 rfl (lv_at hl 2 rfl) ?_
    refine lv_aload_n hx hb dK_endException_56 rfl (lv_at hl 0 rfl) ?_
    refine kcalli (rest := [.int 3, .ref (q 8)]) ⟨hx, hb, hml, hown, hts⟩ hC hP hB hS (c_k_pop l D q cA tN σ) (cwV 0 hts gK_141 rfl rfl rfl hdK_pop ⟨Nat.le_of_ble_eq_true rfl, Nat.le_of_ble_eq_true rfl⟩) (krv_0 hC hP) rfl hl.1 rfl (Nat.le_of_ble_eq_true rfl) dK_endException_57 (fun σ15 v16 H locs e15 hP hB hS => ?_)
    have hE := hE.trans (bd2_e e15)
    refine kast_8 hx hb hC hP hS (vin_c (by decide)) dK_endException_60 (fun σ17 H locs e17 hP hS => ?_)
    have hE := hE.trans (bd_e e17)
    have hB : KB σ17 := by rw [e17]; exact hB
    refine lv_iinc (k := 2) (v := 2) (lv' := [(3, .int 2), (0, .ref (q 0)), (2, .int x2)]) hx hb dK_endException_61 hl rfl (by decide) (by decide) rfl (fun ls hl => ?_)
    refine lv_goto (tgt := 44) hx hb dK_endException_64 rfl ?_
    have hl := lv_sub hl [1, 2, 0] rfl
    exact b44_2 _ _ _ _ x2 hE hl hP hB hS
  have b44_4 : ∀ (H : Heap) (locs : List Loc) (ls : Array Slot) (σ : St) (x2 : Int32), k_endException σ0 a1 = k_endException_44_4 σ x2 → lv_has ls 4 [(0, .ref (q 0)), (2, .int x2), (3, .int 4)] → va_P D vwCl (wsK q cA σ) H → KB σ → va_S (KA q) s.heap H locs → W p l e (headSpec wsK_endException { frames := 2, cells := 0, slots := 0, locals := 43 }).room s m ([.ref (q 0), .int a1] : List Value).toArray below meth c H locs 0 0 (MQ below (va_Qv (fun u => u = k_endException σ0 a1) (KPost D q cA) (KA q)) ([.ref (q 0), .int a1] : List Value).toArray s 0 0 (KA q)) (F0 m 44 ls []) := by
    intro H locs ls σ x2 hE hl hP hB hS
    refine lv_iload_n hx hb dK_endException_44 rfl (lv_at hl 2 rfl) ?_
    refine lv_if_lt (tgt := 67) hx hb dK_endException_45 rfl (fun h10 => absurd h10 (by decide)) (fun _ => ?_)
    refine lv_aload_n hx hb dK_endException_48 rfl (lv_at hl 0 rfl) ?_
    refine kget_0_5 hx hb hts inK hown hC hP (hts _ wK_f28) dK_endException_49 ?_
    refine kget_6_0 hx hb hts inQ hown hC hP (hts _ wK_f82) dK_endException_52 ?_
    refine lv_iload_n hx hb dK_endException_55 rfl (lv_at hl 2 rfl) ?_
    refine lv_aload_n hx hb dK_endException_56 rfl (lv_at hl 0 rfl) ?_
    refine kcalli (rest := [.int 4, .ref (q 8)]) ⟨hx, hb, hml, hown, hts⟩ hC hP hB hS (c_k_pop l D q cA tN σ) (cwV 0 hts gK_141 rfl rfl rfl hdK_pop ⟨Nat.le_of_ble_eq_true rfl, Nat.le_of_ble_eq_true rfl⟩) (krv_0 hC hP) rfl hl.1 rfl (Nat.le_of_ble_eq_true rfl) dK_endException_57 (fun σ11 v12 H locs e11 hP hB hS => ?_)
    have hE := hE.trans (bd2_e e11)
    refine kast_8 hx hb hC hP hS (vin_c (by decide)) dK_endException_60 (fun σ13 H locs e13 hP hS => ?_)
    have hE := hE.trans (bd_e e13)
    have hB : KB σ13 := by rw [e13]; exact hB
    refine lv_iinc (k := 2) (v := 3) (lv' := [(3, .int 3), (0, .ref (q 0)), (2, .int x2)]) hx hb dK_endException_61 hl rfl (by decide) (by decide) rfl (fun ls hl => ?_)
    refine lv_goto (tgt := 44) hx hb dK_endException_64 rfl ?_
    have hl := lv_sub hl [1, 2, 0] rfl
    exact b44_3 _ _ _ _ x2 hE hl hP hB hS
  have b44_5 : ∀ (H : Heap) (locs : List Loc) (ls : Array Slot) (σ : St) (x2 : Int32), k_endException σ0 a1 = k_endException_44_5 σ x2 → lv_has ls 4 [(0, .ref (q 0)), (2, .int x2), (3, .int 5)] → va_P D vwCl (wsK q cA σ) H → KB σ → va_S (KA q) s.heap H locs → W p l e (headSpec wsK_endException { frames := 2, cells := 0, slots := 0, locals := 43 }).room s m ([.ref (q 0), .int a1] : List Value).toArray below meth c H locs 0 0 (MQ below (va_Qv (fun u => u = k_endException σ0 a1) (KPost D q cA) (KA q)) ([.ref (q 0), .int a1] : List Value).toArray s 0 0 (KA q)) (F0 m 44 ls []) := by
    intro H locs ls σ x2 hE hl hP hB hS
    refine lv_iload_n hx hb dK_endException_44 rfl (lv_at hl 2 rfl) ?_
    refine lv_if_lt (tgt := 67) hx hb dK_endException_45 rfl (fun h6 => absurd h6 (by decide)) (fun _ => ?_)
    refine lv_aload_n hx hb dK_endException_48 rfl (lv_at hl 0 rfl) ?_
    refine kget_0_5 hx hb hts inK hown hC hP (hts _ wK_f28) dK_endException_49 ?_
    refine kget_6_0 hx hb hts inQ hown hC hP (hts _ wK_f82) dK_endException_52 ?_
    refine lv_iload_n hx hb dK_endException_55 rfl (lv_at hl 2 rfl) ?_
    refine lv_aload_n hx hb dK_endException_56 rfl (lv_at hl 0 rfl) ?_
    refine kcalli (rest := [.int 5, .ref (q 8)]) ⟨hx, hb, hml, hown, hts⟩ hC hP hB hS (c_k_pop l D q cA tN σ) (cwV 0 hts gK_141 rfl rfl rfl hdK_pop ⟨Nat.le_of_ble_eq_true rfl, Nat.le_of_ble_eq_true rfl⟩) (krv_0 hC hP) rfl hl.1 rfl (Nat.le_of_ble_eq_true rfl) dK_endException_57 (fun σ7 v8 H locs e7 hP hB hS => ?_)
    have hE := hE.trans (bd2_e e7)
    refine kast_8 hx hb hC hP hS (vin_c (by decide)) dK_endException_60 (fun σ9 H locs e9 hP hS => ?_)
    have hE := hE.trans (bd_e e9)
    have hB : KB σ9 := by rw [e9]; exact hB
    refine lv_iinc (k := 2) (v := 4) (lv' := [(3, .int 4), (0, .ref (q 0)), (2, .int x2)]) hx hb dK_endException_61 hl rfl (by decide) (by decide) rfl (fun ls hl => ?_)
    refine lv_goto (tgt := 44) hx hb dK_endException_64 rfl ?_
    have hl := lv_sub hl [1, 2, 0] rfl
    exact b44_4 _ _ _ _ x2 hE hl hP hB hS
  have b42 : ∀ (H : Heap) (locs : List Loc) (ls : Array Slot) (σ : St) (x2 : Int32), k_endException σ0 a1 = k_endException_42 σ x2 → lv_has ls 4 [(0, .ref (q 0)), (2, .int x2)] → va_P D vwCl (wsK q cA σ) H → KB σ → va_S (KA q) s.heap H locs → W p l e (headSpec wsK_endException { frames := 2, cells := 0, slots := 0, locals := 43 }).room s m ([.ref (q 0), .int a1] : List Value).toArray below meth c H locs 0 0 (MQ below (va_Qv (fun u => u = k_endException σ0 a1) (KPost D q cA) (KA q)) ([.ref (q 0), .int a1] : List Value).toArray s 0 0 (KA q)) (F0 m 42 ls []) := by
    intro H locs ls σ x2 hE hl hP hB hS
    refine lv_iconst (v := 5) hx hb dK_endException_42 (by decide) ?_
    refine lv_istore_n (lv' := [(3, .int 5), (0, .ref (q 0)), (2, .int x2)]) hx hb dK_endException_43 rfl hl (by decide) rfl (fun ls hl => ?_)
    have hl := lv_sub hl [1, 2, 0] rfl
    exact b44_5 _ _ _ _ x2 hE hl hP hB hS
  have b22 : ∀ (H : Heap) (locs : List Loc) (ls : Array Slot) (σ : St) (x2 : Int32) (y0 : Int32), zb y0 → k_endException σ0 a1 = k_endException_22 σ x2 y0 → lv_has ls 4 [(0, .ref (q 0)), (2, .int x2)] → va_P D vwCl (wsK q cA σ) H → KB σ → va_S (KA q) s.heap H locs → W p l e (headSpec wsK_endException { frames := 2, cells := 0, slots := 0, locals := 43 }).room s m ([.ref (q 0), .int a1] : List Value).toArray below meth c H locs 0 0 (MQ below (va_Qv (fun u => u = k_endException σ0 a1) (KPost D q cA) (KA q)) ([.ref (q 0), .int a1] : List Value).toArray s 0 0 (KA q)) (F0 m 22 ls [.int y0, .ref (q 6)]) := by
    intro H locs ls σ x2 y0 hz_y0 hE hl hP hB hS
    refine kput_6_5 hx hb hts inQ hown hC hP (hts _ wK_f64) hS hz_y0 dK_endException_22 (fun σ2 H locs e2 hP hS => ?_)
    have hE := hE.trans (bd_e e2)
    have hB : KB σ2 := by rw [e2]; exact KB_6_5s hB hz_y0
    refine lv_aload_n hx hb dK_endException_25 rfl (lv_at hl 0 rfl) ?_
    refine kcalli (rest := []) ⟨hx, hb, hml, hown, hts⟩ hC hP hB hS (c_k_pop l D q cA tN σ2) (cwV 0 hts gK_141 rfl rfl rfl hdK_pop ⟨Nat.le_of_ble_eq_true rfl, Nat.le_of_ble_eq_true rfl⟩) (krv_0 hC hP) rfl hl.1 rfl (Nat.le_of_ble_eq_true rfl) dK_endException_26 (fun σ3 v4 H locs e3 hP hB hS => ?_)
    have hE := hE.trans (bd2_e e3)
    refine lv_sipush (v := 1000) hx hb dK_endException_29 (by decide) ?_
    refine lv_iload_n hx hb dK_endException_32 rfl (lv_at hl 1 rfl) ?_
    refine lv_iadd hx hb dK_endException_33 ?_
    refine lv_icmp_eq (tgt := 42) hx hb dK_endException_34 rfl (fun h5 => ?_) (fun h5 => ?_)
    · have hE := hE.trans (if_pos h5)
      exact b42 _ _ _ _ x2 hE hl hP hB hS
    · have hE := hE.trans (if_neg h5)
      refine lv_aload_n hx hb dK_endException_37 rfl (lv_at hl 0 rfl) ?_
      refine lv_iconst (v := 2) hx hb dK_endException_38 (by decide) ?_
      refine kput_0_14 hx hb hts inK hown hC hP (hts _ wK_f101) hS dK_endException_39 (fun σ42 H locs e42 hP hS => ?_)
      have hE := hE.trans (bd_e e42)
      have hB : KB σ42 := by rw [e42]; exact hB
      exact b42 _ _ _ _ x2 hE hl hP hB hS
  refine lv_iload_n hx hb dK_endException_0 rfl (lv_at hl 1 rfl) ?_
  refine lv_iconst (v := 4) hx hb dK_endException_1 (by decide) ?_
  refine lv_ishr hx hb dK_endException_2 ?_
  refine lv_bipush (v := 7) hx hb dK_endException_3 (by decide) ?_
  refine lv_iand hx hb dK_endException_5 ?_
  refine lv_istore_n (lv' := [(2, .int ((a1 >>> ((4 : Int32) &&& 31)) &&& 7)), (0, .ref (q 0)), (1, .int a1)]) hx hb dK_endException_6 rfl hl (by decide) rfl (fun ls hl => ?_)
  refine lv_aload_n hx hb dK_endException_7 rfl (lv_at hl 1 rfl) ?_
  refine kget_0_5 hx hb hts inK hown hC hP (hts _ wK_f28) dK_endException_8 ?_
  refine lv_iload_n hx hb dK_endException_11 rfl (lv_at hl 2 rfl) ?_
  refine lv_iconst (v := 1) hx hb dK_endException_12 (by decide) ?_
  refine lv_iand hx hb dK_endException_13 ?_
  refine lv_if_ne (tgt := 21) hx hb dK_endException_14 rfl (fun h1 => ?_) (fun h1 => ?_)
  · have hE := hE.trans (if_neg h1)
    refine lv_iconst (v := 0) hx hb dK_endException_21 (by decide) ?_
    have hl := lv_sub hl [1, 0] rfl
    exact b22 _ _ _ _ ((a1 >>> ((4 : Int32) &&& 31)) &&& 7) 0 (by decide) hE hl hP hB hS
  · have hE := hE.trans (if_pos h1)
    refine lv_iconst (v := 1) hx hb dK_endException_17 (by decide) ?_
    refine lv_goto (tgt := 22) hx hb dK_endException_18 rfl ?_
    have hl := lv_sub hl [1, 0] rfl
    exact b22 _ _ _ _ ((a1 >>> ((4 : Int32) &&& 31)) &&& 7) 1 (by decide) hE hl hP hB hS
set_option maxRecDepth 100000 in
set_option maxHeartbeats 4000000 in
theorem c_k_endOutCall (l : Launch) (D : va_G) (q : Nat → Nat) (cA : ClassId) (tN : Nat) (σ0 : St) : Met l yK_endOutCall wsK_endOutCall { frames := 2, cells := 0, slots := 0, locals := 43 } (va_Pc [.ref (q 0)] (KPre D q cA tN σ0)) (va_Qv (fun u => u = k_endOutCall σ0) (KPost D q cA) (KA q)) 0 0 (KA q) := by
  refine Met.ofW (cc := cK_endOutCall) (maxL := 1) (ret := none) (by decide) rfl ?_
  intro p e s m args below meth c s₁ B hml hv
  obtain ⟨rfl, hP, hB, hC⟩ := hv
  have hx := B.exec
  have hb := B.bytes
  have hr := B.returns
  have hts : ∀ w ∈ gw, w.before ([.ref (q 0)] : List Value).toArray s = true := fun w h => atoms_spec (ws := wsK_endOutCall) B.pre w (List.mem_cons_of_mem _ h)
  have hown : s.vm.findClass RK = some m.cls := findClass_of_methodNamed B.named
  have hlocks := B.notSynchronized
  have hS : va_S (KA q) s.heap s.heap [] := va_S.rf
  have hl := lv_entry ([.ref (q 0)]) (n := 1) (Nat.le_of_ble_eq_true rfl)
  rw [lg_entry_eq]
  generalize (lg_sl ([.ref (q 0)]) ++ List.replicate (1 - (lg_sl ([.ref (q 0)])).length) Slot.unset).toArray = ls at hl ⊢
  have hl : lv_has ls 1 [(0, .ref (q 0))] := hl
  have hE : k_endOutCall σ0 = k_endOutCall σ0 := rfl
  have b23 : ∀ (H : Heap) (locs : List Loc) (ls : Array Slot) (σ : St), k_endOutCall σ0 = k_endOutCall_23 σ → lv_has ls 1 [(0, .ref (q 0))] → va_P D vwCl (wsK q cA σ) H → KB σ → va_S (KA q) s.heap H locs → W p l e (headSpec wsK_endOutCall { frames := 2, cells := 0, slots := 0, locals := 43 }).room s m ([.ref (q 0)] : List Value).toArray below meth c H locs 0 0 (MQ below (va_Qv (fun u => u = k_endOutCall σ0) (KPost D q cA) (KA q)) ([.ref (q 0)] : List Value).toArray s 0 0 (KA q)) (F0 m 23 ls []) := by
    intro H locs ls σ hE hl hP hB hS
    refine lv_aload_n hx hb dK_endOutCall_23 rfl (lv_at hl 0 rfl) ?_
    refine lv_aload_n hx hb dK_endOutCall_24 rfl (lv_at hl 0 rfl) ?_
    refine kcalli (rest := [.ref (q 0)]) ⟨hx, hb, hml, hown, hts⟩ hC hP hB hS (c_k_pop l D q cA tN σ) (cwV 0 hts gK_141 rfl rfl rfl hdK_pop ⟨Nat.le_of_ble_eq_true rfl, Nat.le_of_ble_eq_true rfl⟩) (krv_0 hC hP) rfl hl.1 rfl (Nat.le_of_ble_eq_true rfl) dK_endOutCall_25 (fun σ5 v6 H locs e5 hP hB hS => ?_)
    have hE := hE.trans (bd2_e e5)
    refine kcallv (rest := []) ⟨hx, hb, hml, hown, hts⟩ hC hP hB hS (c_k_goTo l D q cA tN σ5 v6) (cwV 1 hts gK_111 rfl rfl rfl hdK_goTo ⟨Nat.le_of_ble_eq_true rfl, Nat.le_of_ble_eq_true rfl⟩) (krv_0 hC hP) rfl hl.1 rfl (Nat.le_of_ble_eq_true rfl) dK_endOutCall_28 (fun σ7 H locs e7 hP hB hS => ?_)
    have hE := hE.trans (bd_e e7)
    exact W.vret hx hb hr (fun t ht hW => ⟨⟨σ7, rfl, hE.symm, ⟨by rw [ht]; exact hP, hB⟩⟩, hS.F ht⟩) hS.2.2 dK_endOutCall_31
  refine lv_aload_n hx hb dK_endOutCall_0 rfl (lv_at hl 0 rfl) ?_
  refine kget_0_5 hx hb hts inK hown hC hP (hts _ wK_f28) dK_endOutCall_1 ?_
  refine lv_iconst (v := 0) hx hb dK_endOutCall_4 (by decide) ?_
  refine kput_6_5 hx hb hts inQ hown hC hP (hts _ wK_f64) hS (by decide) dK_endOutCall_5 (fun σ1 H locs e1 hP hS => ?_)
  have hE := hE.trans (bd_e e1)
  have hB : KB σ1 := by rw [e1]; exact KB_6_5s hB (by decide)
  refine lv_aload_n hx hb dK_endOutCall_8 rfl (lv_at hl 0 rfl) ?_
  refine kcalli (rest := []) ⟨hx, hb, hml, hown, hts⟩ hC hP hB hS (c_k_pop l D q cA tN σ1) (cwV 0 hts gK_141 rfl rfl rfl hdK_pop ⟨Nat.le_of_ble_eq_true rfl, Nat.le_of_ble_eq_true rfl⟩) (krv_0 hC hP) rfl hl.1 rfl (Nat.le_of_ble_eq_true rfl) dK_endOutCall_9 (fun σ2 v3 H locs e2 hP hB hS => ?_)
  have hE := hE.trans (bd2_e e2)
  refine lv_sipush (v := 4096) hx hb dK_endOutCall_12 (by decide) ?_
  refine lv_icmp_eq (tgt := 23) hx hb dK_endOutCall_15 rfl (fun h4 => ?_) (fun h4 => ?_)
  · have hE := hE.trans (if_pos h4)
    exact b23 _ _ _ _ hE hl hP hB hS
  · have hE := hE.trans (if_neg h4)
    refine lv_aload_n hx hb dK_endOutCall_18 rfl (lv_at hl 0 rfl) ?_
    refine lv_iconst (v := 2) hx hb dK_endOutCall_19 (by decide) ?_
    refine kput_0_14 hx hb hts inK hown hC hP (hts _ wK_f101) hS dK_endOutCall_20 (fun σ8 H locs e8 hP hS => ?_)
    have hE := hE.trans (bd_e e8)
    have hB : KB σ8 := by rw [e8]; exact hB
    exact b23 _ _ _ _ hE hl hP hB hS
set_option maxRecDepth 100000 in
set_option maxHeartbeats 4000000 in
theorem c_k_goBack (l : Launch) (D : va_G) (q : Nat → Nat) (cA : ClassId) (tN : Nat) (σ0 : St) : Met l yK_goBack wsK_goBack { frames := 3, cells := 0, slots := 0, locals := 66 } (va_Pc [.ref (q 0)] (KPre D q cA tN σ0)) (va_Qv (fun u => u = k_goBack σ0) (KPost D q cA) (KA q)) 0 0 (KA q) := by
  refine Met.ofW (cc := cK_goBack) (maxL := 2) (ret := none) (by decide) rfl ?_
  intro p e s m args below meth c s₁ B hml hv
  obtain ⟨rfl, hP, hB, hC⟩ := hv
  have hx := B.exec
  have hb := B.bytes
  have hr := B.returns
  have hts : ∀ w ∈ gw, w.before ([.ref (q 0)] : List Value).toArray s = true := fun w h => atoms_spec (ws := wsK_goBack) B.pre w (List.mem_cons_of_mem _ h)
  have hown : s.vm.findClass RK = some m.cls := findClass_of_methodNamed B.named
  have hlocks := B.notSynchronized
  have hS : va_S (KA q) s.heap s.heap [] := va_S.rf
  have hl := lv_entry ([.ref (q 0)]) (n := 2) (Nat.le_of_ble_eq_true rfl)
  rw [lg_entry_eq]
  generalize (lg_sl ([.ref (q 0)]) ++ List.replicate (2 - (lg_sl ([.ref (q 0)])).length) Slot.unset).toArray = ls at hl ⊢
  have hl : lv_has ls 2 [(0, .ref (q 0))] := hl
  have hE : k_goBack σ0 = k_goBack σ0 := rfl
  have b110 : ∀ (H : Heap) (locs : List Loc) (ls : Array Slot) (σ : St), k_goBack σ0 = k_goBack_110 σ → lv_has ls 2 [] → va_P D vwCl (wsK q cA σ) H → KB σ → va_S (KA q) s.heap H locs → W p l e (headSpec wsK_goBack { frames := 3, cells := 0, slots := 0, locals := 66 }).room s m ([.ref (q 0)] : List Value).toArray below meth c H locs 0 0 (MQ below (va_Qv (fun u => u = k_goBack σ0) (KPost D q cA) (KA q)) ([.ref (q 0)] : List Value).toArray s 0 0 (KA q)) (F0 m 110 ls []) := by
    intro H locs ls σ hE hl hP hB hS
    exact W.vret hx hb hr (fun t ht hW => ⟨⟨σ, rfl, hE.symm, ⟨by rw [ht]; exact hP, hB⟩⟩, hS.F ht⟩) hS.2.2 dK_goBack_110
  have b105 : ∀ (H : Heap) (locs : List Loc) (ls : Array Slot) (σ : St), k_goBack σ0 = k_goBack_105 σ → lv_has ls 2 [(0, .ref (q 0))] → va_P D vwCl (wsK q cA σ) H → KB σ → va_S (KA q) s.heap H locs → W p l e (headSpec wsK_goBack { frames := 3, cells := 0, slots := 0, locals := 66 }).room s m ([.ref (q 0)] : List Value).toArray below meth c H locs 0 0 (MQ below (va_Qv (fun u => u = k_goBack σ0) (KPost D q cA) (KA q)) ([.ref (q 0)] : List Value).toArray s 0 0 (KA q)) (F0 m 105 ls []) := by
    intro H locs ls σ hE hl hP hB hS
    refine lv_aload_n hx hb dK_goBack_105 rfl (lv_at hl 0 rfl) ?_
    refine lv_iconst (v := 2) hx hb dK_goBack_106 (by decide) ?_
    refine kput_0_14 hx hb hts inK hown hC hP (hts _ wK_f101) hS dK_goBack_107 (fun σ5 H locs e5 hP hS => ?_)
    have hE := hE.trans (bd_e e5)
    have hB : KB σ5 := by rw [e5]; exact hB
    have hl := lv_sub hl [] rfl
    exact b110 _ _ _ _ hE hl hP hB hS
  have b72 : ∀ (H : Heap) (locs : List Loc) (ls : Array Slot) (σ : St) (x1 : Int32), k_goBack σ0 = k_goBack_72 σ x1 → lv_has ls 2 [(0, .ref (q 0)), (1, .int x1)] → va_P D vwCl (wsK q cA σ) H → KB σ → va_S (KA q) s.heap H locs → W p l e (headSpec wsK_goBack { frames := 3, cells := 0, slots := 0, locals := 66 }).room s m ([.ref (q 0)] : List Value).toArray below meth c H locs 0 0 (MQ below (va_Qv (fun u => u = k_goBack σ0) (KPost D q cA) (KA q)) ([.ref (q 0)] : List Value).toArray s 0 0 (KA q)) (F0 m 72 ls []) := by
    intro H locs ls σ x1 hE hl hP hB hS
    refine lv_iload_n hx hb dK_goBack_72 rfl (lv_at hl 1 rfl) ?_
    refine lv_ldc (v := 65408) hx hb hown (hts _ wK_c157) dK_goBack_73 ?_
    refine lv_icmp_lt (tgt := 105) hx hb dK_goBack_75 rfl (fun h4 => ?_) (fun h4 => ?_)
    · have hE := hE.trans (if_pos h4)
      have hl := lv_sub hl [0] rfl
      exact b105 _ _ _ _ hE hl hP hB hS
    · have hE := hE.trans (if_neg h4)
      refine lv_iload_n hx hb dK_goBack_78 rfl (lv_at hl 1 rfl) ?_
      refine lv_ldc (v := 65520) hx hb hown (hts _ wK_c156) dK_goBack_79 ?_
      refine lv_icmp_ge (tgt := 105) hx hb dK_goBack_81 rfl (fun h6 => ?_) (fun h6 => ?_)
      · have hE := hE.trans (if_pos h6)
        have hl := lv_sub hl [0] rfl
        exact b105 _ _ _ _ hE hl hP hB hS
      · have hE := hE.trans (if_neg h6)
        refine lv_aload_n hx hb dK_goBack_84 rfl (lv_at hl 0 rfl) ?_
        refine kget_0_5 hx hb hts inK hown hC hP (hts _ wK_f28) dK_goBack_85 ?_
        refine kget_6_6 hx hb hts inQ hown hC hP (hts _ wK_f73) dK_goBack_88 ?_
        refine lv_if_eq (tgt := 105) hx hb dK_goBack_91 rfl (fun h7 => ?_) (fun h7 => ?_)
        · have hE := hE.trans (if_pos h7)
          have hl := lv_sub hl [0] rfl
          exact b105 _ _ _ _ hE hl hP hB hS
        · have hE := hE.trans (if_neg h7)
          refine lv_aload_n hx hb dK_goBack_94 rfl (lv_at hl 0 rfl) ?_
          refine lv_iload_n hx hb dK_goBack_95 rfl (lv_at hl 1 rfl) ?_
          refine lv_ldc (v := 65408) hx hb hown (hts _ wK_c157) dK_goBack_96 ?_
          refine lv_isub hx hb dK_goBack_98 ?_
          refine kcallv (rest := []) ⟨hx, hb, hml, hown, hts⟩ hC hP hB hS (c_k_endException l D q cA tN σ (x1 - 65408)) (cwV 1 hts gK_161 rfl rfl rfl hdK_endException ⟨Nat.le_of_ble_eq_true rfl, Nat.le_of_ble_eq_true rfl⟩) (krv_0 hC hP) rfl hl.1 rfl (Nat.le_of_ble_eq_true rfl) dK_goBack_99 (fun σ8 H locs e8 hP hB hS => ?_)
          have hE := hE.trans (bd_e e8)
          refine lv_goto (tgt := 110) hx hb dK_goBack_102 rfl ?_
          have hl := lv_sub hl [] rfl
          exact b110 _ _ _ _ hE hl hP hB hS
  have b49 : ∀ (H : Heap) (locs : List Loc) (ls : Array Slot) (σ : St) (x1 : Int32), k_goBack σ0 = k_goBack_49 σ x1 → lv_has ls 2 [(0, .ref (q 0)), (1, .int x1)] → va_P D vwCl (wsK q cA σ) H → KB σ → va_S (KA q) s.heap H locs → W p l e (headSpec wsK_goBack { frames := 3, cells := 0, slots := 0, locals := 66 }).room s m ([.ref (q 0)] : List Value).toArray below meth c H locs 0 0 (MQ below (va_Qv (fun u => u = k_goBack σ0) (KPost D q cA) (KA q)) ([.ref (q 0)] : List Value).toArray s 0 0 (KA q)) (F0 m 49 ls []) := by
    intro H locs ls σ x1 hE hl hP hB hS
    refine lv_iload_n hx hb dK_goBack_49 rfl (lv_at hl 1 rfl) ?_
    refine lv_ldc (v := 65520) hx hb hown (hts _ wK_c156) dK_goBack_50 ?_
    refine lv_icmp_ne (tgt := 72) hx hb dK_goBack_52 rfl (fun h3 => ?_) (fun h3 => ?_)
    · have hE := hE.trans (if_neg h3)
      exact b72 _ _ _ _ x1 hE hl hP hB hS
    · have hE := hE.trans (if_pos h3)
      refine lv_aload_n hx hb dK_goBack_55 rfl (lv_at hl 0 rfl) ?_
      refine kget_0_5 hx hb hts inK hown hC hP (hts _ wK_f28) dK_goBack_56 ?_
      refine kget_6_5 hx hb hts inQ hown hC hP (hts _ wK_f64) dK_goBack_59 ?_
      have z9 : zb (σ 6 5) := KB_6_5 hB
      refine lv_if_eq (tgt := 72) hx hb dK_goBack_62 rfl (fun h10 => ?_) (fun h10 => ?_)
      · have hE := hE.trans (if_pos h10)
        exact b72 _ _ _ _ x1 hE hl hP hB hS
      · have hE := hE.trans (if_neg h10)
        refine lv_aload_n hx hb dK_goBack_65 rfl (lv_at hl 0 rfl) ?_
        refine kcallv (rest := []) ⟨hx, hb, hml, hown, hts⟩ hC hP hB hS (c_k_endOutCall l D q cA tN σ) (cwV 0 hts gK_158 rfl rfl rfl hdK_endOutCall ⟨Nat.le_of_ble_eq_true rfl, Nat.le_of_ble_eq_true rfl⟩) (krv_0 hC hP) rfl hl.1 rfl (Nat.le_of_ble_eq_true rfl) dK_goBack_66 (fun σ11 H locs e11 hP hB hS => ?_)
        have hE := hE.trans (bd_e e11)
        refine lv_goto (tgt := 110) hx hb dK_goBack_69 rfl ?_
        have hl := lv_sub hl [] rfl
        exact b110 _ _ _ _ hE hl hP hB hS
  refine lv_aload_n hx hb dK_goBack_0 rfl (lv_at hl 0 rfl) ?_
  refine kget_0_5 hx hb hts inK hown hC hP (hts _ wK_f28) dK_goBack_1 ?_
  refine kget_6_0 hx hb hts inQ hown hC hP (hts _ wK_f82) dK_goBack_4 ?_
  refine lv_bipush (v := 6) hx hb dK_goBack_7 (by decide) ?_
  refine kald_8 hx hb hC hP (vin_c (by decide)) dK_goBack_9 ?_
  refine lv_istore_n (lv' := [(1, .int (σ0 8 (ix 6))), (0, .ref (q 0))]) hx hb dK_goBack_10 rfl hl (by decide) rfl (fun ls hl => ?_)
  refine lv_iload_n hx hb dK_goBack_11 rfl (lv_at hl 0 rfl) ?_
  refine lv_ldc (v := 32768) hx hb hown (hts _ wK_c127) dK_goBack_12 ?_
  refine lv_icmp_ge (tgt := 25) hx hb dK_goBack_14 rfl (fun h1 => ?_) (fun h1 => ?_)
  · have hE := hE.trans (if_pos h1)
    refine lv_iload_n hx hb dK_goBack_25 rfl (lv_at hl 0 rfl) ?_
    refine lv_ldc (v := 65408) hx hb hown (hts _ wK_c157) dK_goBack_26 ?_
    refine lv_icmp_ge (tgt := 49) hx hb dK_goBack_28 rfl (fun h2 => ?_) (fun h2 => ?_)
    · have hE := hE.trans (if_pos h2)
      have hl := lv_sub hl [1, 0] rfl
      exact b49 _ _ _ _ (σ0 8 (ix 6)) hE hl hP hB hS
    · have hE := hE.trans (if_neg h2)
      refine lv_aload_n hx hb dK_goBack_31 rfl (lv_at hl 1 rfl) ?_
      refine kget_0_5 hx hb hts inK hown hC hP (hts _ wK_f28) dK_goBack_32 ?_
      refine kget_6_5 hx hb hts inQ hown hC hP (hts _ wK_f64) dK_goBack_35 ?_
      have z12 : zb (σ0 6 5) := KB_6_5 hB
      refine lv_if_ne (tgt := 49) hx hb dK_goBack_38 rfl (fun h13 => ?_) (fun h13 => ?_)
      · have hE := hE.trans (if_neg h13)
        have hl := lv_sub hl [1, 0] rfl
        exact b49 _ _ _ _ (σ0 8 (ix 6)) hE hl hP hB hS
      · have hE := hE.trans (if_pos h13)
        refine lv_aload_n hx hb dK_goBack_41 rfl (lv_at hl 1 rfl) ?_
        refine lv_iload_n hx hb dK_goBack_42 rfl (lv_at hl 0 rfl) ?_
        refine kcallv (rest := []) ⟨hx, hb, hml, hown, hts⟩ hC hP hB hS (c_k_goOut l D q cA tN σ0 (σ0 8 (ix 6))) (cwV 1 hts gK_147 rfl rfl rfl hdK_goOut ⟨Nat.le_of_ble_eq_true rfl, Nat.le_of_ble_eq_true rfl⟩) (krv_0 hC hP) rfl hl.1 rfl (Nat.le_of_ble_eq_true rfl) dK_goBack_43 (fun σ14 H locs e14 hP hB hS => ?_)
        have hE := hE.trans (bd_e e14)
        refine lv_goto (tgt := 110) hx hb dK_goBack_46 rfl ?_
        have hl := lv_sub hl [] rfl
        exact b110 _ _ _ _ hE hl hP hB hS
  · have hE := hE.trans (if_neg h1)
    refine lv_aload_n hx hb dK_goBack_17 rfl (lv_at hl 1 rfl) ?_
    refine lv_iload_n hx hb dK_goBack_18 rfl (lv_at hl 0 rfl) ?_
    refine kcallv (rest := []) ⟨hx, hb, hml, hown, hts⟩ hC hP hB hS (c_k_goTo l D q cA tN σ0 (σ0 8 (ix 6))) (cwV 1 hts gK_111 rfl rfl rfl hdK_goTo ⟨Nat.le_of_ble_eq_true rfl, Nat.le_of_ble_eq_true rfl⟩) (krv_0 hC hP) rfl hl.1 rfl (Nat.le_of_ble_eq_true rfl) dK_goBack_19 (fun σ15 H locs e15 hP hB hS => ?_)
    have hE := hE.trans (bd_e e15)
    refine lv_goto (tgt := 110) hx hb dK_goBack_22 rfl ?_
    have hl := lv_sub hl [] rfl
    exact b110 _ _ _ _ hE hl hP hB hS
set_option maxRecDepth 100000 in
set_option maxHeartbeats 4000000 in
theorem c_k_changeFlow (l : Launch) (D : va_G) (q : Nat → Nat) (cA : ClassId) (tN : Nat) (σ0 : St) (a1 : Int32) : Met l yK_changeFlow wsK_changeFlow { frames := 4, cells := 0, slots := 0, locals := 87 } (va_Pc [.ref (q 0), .int a1] (KPre D q cA tN σ0)) (va_Qv (fun u => u = k_changeFlow σ0 a1) (KPost D q cA) (KA q)) 0 0 (KA q) := by
  refine Met.ofW (cc := cK_changeFlow) (maxL := 3) (ret := none) (by decide) rfl ?_
  intro p e s m args below meth c s₁ B hml hv
  obtain ⟨rfl, hP, hB, hC⟩ := hv
  have hx := B.exec
  have hb := B.bytes
  have hr := B.returns
  have hts : ∀ w ∈ gw, w.before ([.ref (q 0), .int a1] : List Value).toArray s = true := fun w h => atoms_spec (ws := wsK_changeFlow) B.pre w (List.mem_cons_of_mem _ h)
  have hown : s.vm.findClass RK = some m.cls := findClass_of_methodNamed B.named
  have hlocks := B.notSynchronized
  have hS : va_S (KA q) s.heap s.heap [] := va_S.rf
  have hl := lv_entry ([.ref (q 0), .int a1]) (n := 3) (Nat.le_of_ble_eq_true rfl)
  rw [lg_entry_eq]
  generalize (lg_sl ([.ref (q 0), .int a1]) ++ List.replicate (3 - (lg_sl ([.ref (q 0), .int a1])).length) Slot.unset).toArray = ls at hl ⊢
  have hl : lv_has ls 3 [(0, .ref (q 0)), (1, .int a1)] := hl
  have hE : k_changeFlow σ0 a1 = k_changeFlow σ0 a1 := rfl
  have b158 : ∀ (H : Heap) (locs : List Loc) (ls : Array Slot) (σ : St), k_changeFlow σ0 a1 = k_changeFlow_158 σ → lv_has ls 3 [] → va_P D vwCl (wsK q cA σ) H → KB σ → va_S (KA q) s.heap H locs → W p l e (headSpec wsK_changeFlow { frames := 4, cells := 0, slots := 0, locals := 87 }).room s m ([.ref (q 0), .int a1] : List Value).toArray below meth c H locs 0 0 (MQ below (va_Qv (fun u => u = k_changeFlow σ0 a1) (KPost D q cA) (KA q)) ([.ref (q 0), .int a1] : List Value).toArray s 0 0 (KA q)) (F0 m 158 ls []) := by
    intro H locs ls σ hE hl hP hB hS
    exact W.vret hx hb hr (fun t ht hW => ⟨⟨σ, rfl, hE.symm, ⟨by rw [ht]; exact hP, hB⟩⟩, hS.F ht⟩) hS.2.2 dK_changeFlow_158
  refine lv_aload_n hx hb dK_changeFlow_0 rfl (lv_at hl 0 rfl) ?_
  refine kget_0_5 hx hb hts inK hown hC hP (hts _ wK_f28) dK_changeFlow_1 ?_
  refine kget_6_0 hx hb hts inQ hown hC hP (hts _ wK_f82) dK_changeFlow_4 ?_
  refine lv_iload_n hx hb dK_changeFlow_7 rfl (lv_at hl 1 rfl) ?_
  refine lv_bipush (v := 6) hx hb dK_changeFlow_8 (by decide) ?_
  refine lv_ishr hx hb dK_changeFlow_10 ?_
  refine lv_bipush (v := 7) hx hb dK_changeFlow_11 (by decide) ?_
  refine lv_iand hx hb dK_changeFlow_13 ?_
  refine kald_8 hx hb hC hP (vin_m 3 (by decide) (by decide) (by decide)) dK_changeFlow_14 ?_
  refine lv_istore_n (lv' := [(2, .int (σ0 8 (ix ((a1 >>> ((6 : Int32) &&& 31)) &&& 7)))), (0, .ref (q 0)), (1, .int a1)]) hx hb dK_changeFlow_15 rfl hl (by decide) rfl (fun ls hl => ?_)
  refine lv_iload_n hx hb dK_changeFlow_16 rfl (lv_at hl 2 rfl) ?_
  refine lv_bipush (v := 12) hx hb dK_changeFlow_17 (by decide) ?_
  refine lv_ishr hx hb dK_changeFlow_19 ?_
  rcases Classical.em ((a1 >>> ((12 : Int32) &&& 31)) = 7) with h1 | h1
  · have hE := hE.trans (if_pos h1)
    refine lv_tableIn (tgt := 72) hx hb dK_changeFlow_20 (by rw [h1]; decide) (by rw [h1]; decide) (by rw [h1]; rfl) rfl ?_
    refine lv_aload_n hx hb dK_changeFlow_72 rfl (lv_at hl 1 rfl) ?_
    refine lv_iload_n hx hb dK_changeFlow_73 rfl (lv_at hl 2 rfl) ?_
    refine kcallv (rest := []) ⟨hx, hb, hml, hown, hts⟩ hC hP hB hS (c_k_goTo l D q cA tN σ0 a1) (cwV 1 hts gK_111 rfl rfl rfl hdK_goTo ⟨Nat.le_of_ble_eq_true rfl, Nat.le_of_ble_eq_true rfl⟩) (krv_0 hC hP) rfl hl.1 rfl (Nat.le_of_ble_eq_true rfl) dK_changeFlow_74 (fun σ2 H locs e2 hP hB hS => ?_)
    have hE := hE.trans (bd_e e2)
    refine lv_goto (tgt := 158) hx hb dK_changeFlow_77 rfl ?_
    have hl := lv_sub hl [] rfl
    exact b158 _ _ _ _ hE hl hP hB hS
  have hE := hE.trans (if_neg h1)
  rcases Classical.em ((a1 >>> ((12 : Int32) &&& 31)) = 8) with h3 | h3
  · have hE := hE.trans (if_pos h3)
    refine lv_tableIn (tgt := 80) hx hb dK_changeFlow_20 (by rw [h3]; decide) (by rw [h3]; decide) (by rw [h3]; rfl) rfl ?_
    refine lv_aload_n hx hb dK_changeFlow_80 rfl (lv_at hl 1 rfl) ?_
    refine kget_0_5 hx hb hts inK hown hC hP (hts _ wK_f28) dK_changeFlow_81 ?_
    refine kget_6_4 hx hb hts inQ hown hC hP (hts _ wK_f88) dK_changeFlow_84 ?_
    have z4 : zb (σ0 6 4) := KB_6_4 hB
    refine lv_if_eq (tgt := 158) hx hb dK_changeFlow_87 rfl (fun h5 => ?_) (fun h5 => ?_)
    · have hE := hE.trans (if_pos h5)
      have hl := lv_sub hl [] rfl
      exact b158 _ _ _ _ hE hl hP hB hS
    · have hE := hE.trans (if_neg h5)
      refine lv_aload_n hx hb dK_changeFlow_90 rfl (lv_at hl 1 rfl) ?_
      refine lv_iload_n hx hb dK_changeFlow_91 rfl (lv_at hl 2 rfl) ?_
      refine kcallv (rest := []) ⟨hx, hb, hml, hown, hts⟩ hC hP hB hS (c_k_goTo l D q cA tN σ0 a1) (cwV 1 hts gK_111 rfl rfl rfl hdK_goTo ⟨Nat.le_of_ble_eq_true rfl, Nat.le_of_ble_eq_true rfl⟩) (krv_0 hC hP) rfl hl.1 rfl (Nat.le_of_ble_eq_true rfl) dK_changeFlow_92 (fun σ6 H locs e6 hP hB hS => ?_)
      have hE := hE.trans (bd_e e6)
      refine lv_goto (tgt := 158) hx hb dK_changeFlow_95 rfl ?_
      have hl := lv_sub hl [] rfl
      exact b158 _ _ _ _ hE hl hP hB hS
  have hE := hE.trans (if_neg h3)
  rcases Classical.em ((a1 >>> ((12 : Int32) &&& 31)) = 9) with h7 | h7
  · have hE := hE.trans (if_pos h7)
    refine lv_tableIn (tgt := 98) hx hb dK_changeFlow_20 (by rw [h7]; decide) (by rw [h7]; decide) (by rw [h7]; rfl) rfl ?_
    refine lv_aload_n hx hb dK_changeFlow_98 rfl (lv_at hl 1 rfl) ?_
    refine lv_iload_n hx hb dK_changeFlow_99 rfl (lv_at hl 0 rfl) ?_
    refine kcallv (rest := []) ⟨hx, hb, hml, hown, hts⟩ hC hP hB hS (c_k_call l D q cA tN σ0 (σ0 8 (ix ((a1 >>> ((6 : Int32) &&& 31)) &&& 7)))) (cwV 1 hts gK_144 rfl rfl rfl hdK_call ⟨Nat.le_of_ble_eq_true rfl, Nat.le_of_ble_eq_true rfl⟩) (krv_0 hC hP) rfl hl.1 rfl (Nat.le_of_ble_eq_true rfl) dK_changeFlow_100 (fun σ8 H locs e8 hP hB hS => ?_)
    have hE := hE.trans (bd_e e8)
    refine lv_goto (tgt := 158) hx hb dK_changeFlow_103 rfl ?_
    have hl := lv_sub hl [] rfl
    exact b158 _ _ _ _ hE hl hP hB hS
  have hE := hE.trans (if_neg h7)
  rcases Classical.em ((a1 >>> ((12 : Int32) &&& 31)) = 11) with h9 | h9
  · have hE := hE.trans (if_pos h9)
    refine lv_tableIn (tgt := 106) hx hb dK_changeFlow_20 (by rw [h9]; decide) (by rw [h9]; decide) (by rw [h9]; rfl) rfl ?_
    refine lv_aload_n hx hb dK_changeFlow_106 rfl (lv_at hl 1 rfl) ?_
    refine lv_iload_n hx hb dK_changeFlow_107 rfl (lv_at hl 0 rfl) ?_
    refine kcallv (rest := []) ⟨hx, hb, hml, hown, hts⟩ hC hP hB hS (c_k_goOut l D q cA tN σ0 (σ0 8 (ix ((a1 >>> ((6 : Int32) &&& 31)) &&& 7)))) (cwV 1 hts gK_147 rfl rfl rfl hdK_goOut ⟨Nat.le_of_ble_eq_true rfl, Nat.le_of_ble_eq_true rfl⟩) (krv_0 hC hP) rfl hl.1 rfl (Nat.le_of_ble_eq_true rfl) dK_changeFlow_108 (fun σ10 H locs e10 hP hB hS => ?_)
    have hE := hE.trans (bd_e e10)
    refine lv_goto (tgt := 158) hx hb dK_changeFlow_111 rfl ?_
    have hl := lv_sub hl [] rfl
    exact b158 _ _ _ _ hE hl hP hB hS
  have hE := hE.trans (if_neg h9)
  rcases Classical.em ((a1 >>> ((12 : Int32) &&& 31)) = 12) with h11 | h11
  · have hE := hE.trans (if_pos h11)
    refine lv_tableIn (tgt := 114) hx hb dK_changeFlow_20 (by rw [h11]; decide) (by rw [h11]; decide) (by rw [h11]; rfl) rfl ?_
    refine lv_aload_n hx hb dK_changeFlow_114 rfl (lv_at hl 1 rfl) ?_
    refine lv_iload_n hx hb dK_changeFlow_115 rfl (lv_at hl 0 rfl) ?_
    refine kcallv (rest := []) ⟨hx, hb, hml, hown, hts⟩ hC hP hB hS (c_k_callOut l D q cA tN σ0 (σ0 8 (ix ((a1 >>> ((6 : Int32) &&& 31)) &&& 7)))) (cwV 1 hts gK_150 rfl rfl rfl hdK_callOut ⟨Nat.le_of_ble_eq_true rfl, Nat.le_of_ble_eq_true rfl⟩) (krv_0 hC hP) rfl hl.1 rfl (Nat.le_of_ble_eq_true rfl) dK_changeFlow_116 (fun σ12 H locs e12 hP hB hS => ?_)
    have hE := hE.trans (bd_e e12)
    refine lv_goto (tgt := 158) hx hb dK_changeFlow_119 rfl ?_
    have hl := lv_sub hl [] rfl
    exact b158 _ _ _ _ hE hl hP hB hS
  have hE := hE.trans (if_neg h11)
  rcases Classical.em ((a1 >>> ((12 : Int32) &&& 31)) = 13) with h13 | h13
  · have hE := hE.trans (if_pos h13)
    refine lv_tableIn (tgt := 122) hx hb dK_changeFlow_20 (by rw [h13]; decide) (by rw [h13]; decide) (by rw [h13]; rfl) rfl ?_
    refine lv_aload_n hx hb dK_changeFlow_122 rfl (lv_at hl 1 rfl) ?_
    refine kcallv (rest := []) ⟨hx, hb, hml, hown, hts⟩ hC hP hB hS (c_k_goBack l D q cA tN σ0) (cwV 0 hts gK_153 rfl rfl rfl hdK_goBack ⟨Nat.le_of_ble_eq_true rfl, Nat.le_of_ble_eq_true rfl⟩) (krv_0 hC hP) rfl hl.1 rfl (Nat.le_of_ble_eq_true rfl) dK_changeFlow_123 (fun σ14 H locs e14 hP hB hS => ?_)
    have hE := hE.trans (bd_e e14)
    refine lv_goto (tgt := 158) hx hb dK_changeFlow_126 rfl ?_
    have hl := lv_sub hl [] rfl
    exact b158 _ _ _ _ hE hl hP hB hS
  have hE := hE.trans (if_neg h13)
  rcases Classical.em ((a1 >>> ((12 : Int32) &&& 31)) = 14) with h15 | h15
  · have hE := hE.trans (if_pos h15)
    refine lv_tableIn (tgt := 129) hx hb dK_changeFlow_20 (by rw [h15]; decide) (by rw [h15]; decide) (by rw [h15]; rfl) rfl ?_
    refine lv_aload_n hx hb dK_changeFlow_129 rfl (lv_at hl 1 rfl) ?_
    refine lv_dup hx hb dK_changeFlow_130 rfl ?_
    refine kget_0_12 hx hb hts inK hown hC hP (hts _ wK_f79) dK_changeFlow_131 ?_
    refine lv_iconst (v := 1) hx hb dK_changeFlow_134 (by decide) ?_
    refine lv_iconst (v := 3) hx hb dK_changeFlow_135 (by decide) ?_
    refine lv_iload_n hx hb dK_changeFlow_136 rfl (lv_at hl 2 rfl) ?_
    refine lv_iconst (v := 3) hx hb dK_changeFlow_137 (by decide) ?_
    refine lv_ishr hx hb dK_changeFlow_138 ?_
    refine lv_iconst (v := 3) hx hb dK_changeFlow_139 (by decide) ?_
    refine lv_iand hx hb dK_changeFlow_140 ?_
    refine lv_iadd hx hb dK_changeFlow_141 ?_
    refine lv_ishl hx hb dK_changeFlow_142 ?_
    refine lv_ior hx hb dK_changeFlow_143 ?_
    refine kput_0_12 hx hb hts inK hown hC hP (hts _ wK_f79) hS dK_changeFlow_144 (fun σ16 H locs e16 hP hS => ?_)
    have hE := hE.trans (bd_e e16)
    have hB : KB σ16 := by rw [e16]; exact hB
    refine lv_goto (tgt := 158) hx hb dK_changeFlow_147 rfl ?_
    have hl := lv_sub hl [] rfl
    exact b158 _ _ _ _ hE hl hP hB hS
  have hE := hE.trans (if_neg h15)
  rcases Classical.em ((a1 >>> ((12 : Int32) &&& 31)) = 15) with h17 | h17
  · have hE := hE.trans (if_pos h17)
    refine lv_tableIn (tgt := 150) hx hb dK_changeFlow_20 (by rw [h17]; decide) (by rw [h17]; decide) (by rw [h17]; rfl) rfl ?_
    refine lv_aload_n hx hb dK_changeFlow_150 rfl (lv_at hl 1 rfl) ?_
    refine lv_iconst (v := 1) hx hb dK_changeFlow_151 (by decide) ?_
    refine kput_0_11 hx hb hts inK hown hC hP (hts _ wK_f76) hS dK_changeFlow_152 (fun σ18 H locs e18 hP hS => ?_)
    have hE := hE.trans (bd_e e18)
    have hB : KB σ18 := by rw [e18]; exact hB
    refine lv_goto (tgt := 158) hx hb dK_changeFlow_155 rfl ?_
    have hl := lv_sub hl [] rfl
    exact b158 _ _ _ _ hE hl hP hB hS
  have hE := hE.trans (if_neg h17)
  rcases Classical.em ((a1 >>> ((12 : Int32) &&& 31)) = 10) with h19 | h19
  · refine lv_tableIn (tgt := 158) hx hb dK_changeFlow_20 (by rw [h19]; decide) (by rw [h19]; decide) (by rw [h19]; rfl) rfl ?_
    have hl := lv_sub hl [] rfl
    exact b158 _ _ _ _ hE hl hP hB hS
  · refine lv_tableOut (tgt := 158) hx hb dK_changeFlow_20 (by have n0 := ne_t 7 7 (by decide) h1; have n1 := ne_t 8 8 (by decide) h3; have n2 := ne_t 9 9 (by decide) h7; have n3 := ne_t 10 10 (by decide) h19; have n4 := ne_t 11 11 (by decide) h9; have n5 := ne_t 12 12 (by decide) h11; have n6 := ne_t 13 13 (by decide) h13; have n7 := ne_t 14 14 (by decide) h15; have n8 := ne_t 15 15 (by decide) h17; omega) rfl ?_
    have hl := lv_sub hl [] rfl
    exact b158 _ _ _ _ hE hl hP hB hS
set_option maxRecDepth 100000 in
set_option maxHeartbeats 4000000 in
theorem c_k_moveData (l : Launch) (D : va_G) (q : Nat → Nat) (cA : ClassId) (tN : Nat) (σ0 : St) (a1 : Int32) : Met l yK_moveData wsK_moveData { frames := 2, cells := 0, slots := 0, locals := 45 } (va_Pc [.ref (q 0), .int a1] (KPre D q cA tN σ0)) (va_Qv (fun u => u = k_moveData σ0 a1) (KPost D q cA) (KA q)) 0 0 (KA q) := by
  refine Met.ofW (cc := cK_moveData) (maxL := 7) (ret := none) (by decide) rfl ?_
  intro p e s m args below meth c s₁ B hml hv
  obtain ⟨rfl, hP, hB, hC⟩ := hv
  have hx := B.exec
  have hb := B.bytes
  have hr := B.returns
  have hts : ∀ w ∈ gw, w.before ([.ref (q 0), .int a1] : List Value).toArray s = true := fun w h => atoms_spec (ws := wsK_moveData) B.pre w (List.mem_cons_of_mem _ h)
  have hown : s.vm.findClass RK = some m.cls := findClass_of_methodNamed B.named
  have hlocks := B.notSynchronized
  have hS : va_S (KA q) s.heap s.heap [] := va_S.rf
  have hl := lv_entry ([.ref (q 0), .int a1]) (n := 7) (Nat.le_of_ble_eq_true rfl)
  rw [lg_entry_eq]
  generalize (lg_sl ([.ref (q 0), .int a1]) ++ List.replicate (7 - (lg_sl ([.ref (q 0), .int a1])).length) Slot.unset).toArray = ls at hl ⊢
  have hl : lv_has ls 7 [(0, .ref (q 0)), (1, .int a1)] := hl
  have hE : k_moveData σ0 a1 = k_moveData σ0 a1 := rfl
  have b203 : ∀ (H : Heap) (locs : List Loc) (ls : Array Slot) (σ : St), k_moveData σ0 a1 = k_moveData_203 σ → lv_has ls 7 [] → va_P D vwCl (wsK q cA σ) H → KB σ → va_S (KA q) s.heap H locs → W p l e (headSpec wsK_moveData { frames := 2, cells := 0, slots := 0, locals := 45 }).room s m ([.ref (q 0), .int a1] : List Value).toArray below meth c H locs 0 0 (MQ below (va_Qv (fun u => u = k_moveData σ0 a1) (KPost D q cA) (KA q)) ([.ref (q 0), .int a1] : List Value).toArray s 0 0 (KA q)) (F0 m 203 ls []) := by
    intro H locs ls σ hE hl hP hB hS
    exact W.vret hx hb hr (fun t ht hW => ⟨⟨σ, rfl, hE.symm, ⟨by rw [ht]; exact hP, hB⟩⟩, hS.F ht⟩) hS.2.2 dK_moveData_203
  have b143 : ∀ (H : Heap) (locs : List Loc) (ls : Array Slot) (σ : St) (y0 : Int32), zb y0 → k_moveData σ0 a1 = k_moveData_143 σ y0 → lv_has ls 7 [] → va_P D vwCl (wsK q cA σ) H → KB σ → va_S (KA q) s.heap H locs → W p l e (headSpec wsK_moveData { frames := 2, cells := 0, slots := 0, locals := 45 }).room s m ([.ref (q 0), .int a1] : List Value).toArray below meth c H locs 0 0 (MQ below (va_Qv (fun u => u = k_moveData σ0 a1) (KPost D q cA) (KA q)) ([.ref (q 0), .int a1] : List Value).toArray s 0 0 (KA q)) (F0 m 143 ls [.int y0, .ref (q 6)]) := by
    intro H locs ls σ y0 hz_y0 hE hl hP hB hS
    refine kput_6_4 hx hb hts inQ hown hC hP (hts _ wK_f88) hS hz_y0 dK_moveData_143 (fun σ8 H locs e8 hP hS => ?_)
    have hE := hE.trans (bd_e e8)
    have hB : KB σ8 := by rw [e8]; exact KB_6_4s hB hz_y0
    refine lv_goto (tgt := 203) hx hb dK_moveData_146 rfl ?_
    exact b203 _ _ _ _ hE hl hP hB hS
  refine lv_aload_n hx hb dK_moveData_0 rfl (lv_at hl 0 rfl) ?_
  refine kget_0_5 hx hb hts inK hown hC hP (hts _ wK_f28) dK_moveData_1 ?_
  refine kget_6_0 hx hb hts inQ hown hC hP (hts _ wK_f82) dK_moveData_4 ?_
  refine lv_astore_n (lv' := [(2, .ref (q 8)), (0, .ref (q 0)), (1, .int a1)]) hx hb dK_moveData_7 rfl hl (by decide) rfl (fun ls hl => ?_)
  refine lv_iload_n hx hb dK_moveData_8 rfl (lv_at hl 2 rfl) ?_
  refine lv_bipush (v := 9) hx hb dK_moveData_9 (by decide) ?_
  refine lv_ishr hx hb dK_moveData_11 ?_
  refine lv_bipush (v := 7) hx hb dK_moveData_12 (by decide) ?_
  refine lv_iand hx hb dK_moveData_14 ?_
  refine lv_istore_n (lv' := [(3, .int ((a1 >>> ((9 : Int32) &&& 31)) &&& 7)), (2, .ref (q 8)), (0, .ref (q 0)), (1, .int a1)]) hx hb dK_moveData_15 rfl hl (by decide) rfl (fun ls hl => ?_)
  refine lv_iload_n hx hb dK_moveData_16 rfl (lv_at hl 3 rfl) ?_
  refine lv_bipush (v := 6) hx hb dK_moveData_17 (by decide) ?_
  refine lv_ishr hx hb dK_moveData_19 ?_
  refine lv_bipush (v := 7) hx hb dK_moveData_20 (by decide) ?_
  refine lv_iand hx hb dK_moveData_22 ?_
  refine lv_istore (lv' := [(4, .int ((a1 >>> ((6 : Int32) &&& 31)) &&& 7)), (3, .int ((a1 >>> ((9 : Int32) &&& 31)) &&& 7)), (2, .ref (q 8)), (0, .ref (q 0)), (1, .int a1)]) hx hb dK_moveData_23 hl (by decide) rfl (fun ls hl => ?_)
  refine lv_iload_n hx hb dK_moveData_25 rfl (lv_at hl 4 rfl) ?_
  refine lv_iconst (v := 3) hx hb dK_moveData_26 (by decide) ?_
  refine lv_ishr hx hb dK_moveData_27 ?_
  refine lv_bipush (v := 7) hx hb dK_moveData_28 (by decide) ?_
  refine lv_iand hx hb dK_moveData_30 ?_
  refine lv_istore (lv' := [(5, .int ((a1 >>> ((3 : Int32) &&& 31)) &&& 7)), (4, .int ((a1 >>> ((6 : Int32) &&& 31)) &&& 7)), (3, .int ((a1 >>> ((9 : Int32) &&& 31)) &&& 7)), (2, .ref (q 8)), (0, .ref (q 0)), (1, .int a1)]) hx hb dK_moveData_31 hl (by decide) rfl (fun ls hl => ?_)
  refine lv_iload_n hx hb dK_moveData_33 rfl (lv_at hl 5 rfl) ?_
  refine lv_bipush (v := 63) hx hb dK_moveData_34 (by decide) ?_
  refine lv_iand hx hb dK_moveData_36 ?_
  refine lv_istore (lv' := [(6, .int (a1 &&& 63)), (5, .int ((a1 >>> ((3 : Int32) &&& 31)) &&& 7)), (4, .int ((a1 >>> ((6 : Int32) &&& 31)) &&& 7)), (3, .int ((a1 >>> ((9 : Int32) &&& 31)) &&& 7)), (2, .ref (q 8)), (0, .ref (q 0)), (1, .int a1)]) hx hb dK_moveData_37 hl (by decide) rfl (fun ls hl => ?_)
  refine lv_iload_n hx hb dK_moveData_39 rfl (lv_at hl 6 rfl) ?_
  refine lv_bipush (v := 12) hx hb dK_moveData_40 (by decide) ?_
  refine lv_ishr hx hb dK_moveData_42 ?_
  rcases Classical.em ((a1 >>> ((12 : Int32) &&& 31)) = 0) with h1 | h1
  · have hE := hE.trans (if_pos h1)
    refine lv_tableIn (tgt := 84) hx hb dK_moveData_43 (by rw [h1]; decide) (by rw [h1]; decide) (by rw [h1]; rfl) rfl ?_
    refine lv_aload_n hx hb dK_moveData_84 rfl (lv_at hl 4 rfl) ?_
    refine lv_iload_n hx hb dK_moveData_85 rfl (lv_at hl 3 rfl) ?_
    refine lv_iload_n hx hb dK_moveData_86 rfl (lv_at hl 6 rfl) ?_
    refine lv_sipush (v := 511) hx hb dK_moveData_87 (by decide) ?_
    refine lv_iand hx hb dK_moveData_90 ?_
    refine kast_8 hx hb hC hP hS (vin_m 3 (by decide) (by decide) (by decide)) dK_moveData_91 (fun σ2 H locs e2 hP hS => ?_)
    have hE := hE.trans (bd_e e2)
    have hB : KB σ2 := by rw [e2]; exact hB
    refine lv_goto (tgt := 203) hx hb dK_moveData_92 rfl ?_
    have hl := lv_sub hl [] rfl
    exact b203 _ _ _ _ hE hl hP hB hS
  have hE := hE.trans (if_neg h1)
  rcases Classical.em ((a1 >>> ((12 : Int32) &&& 31)) = 1) with h3 | h3
  · have hE := hE.trans (if_pos h3)
    refine lv_tableIn (tgt := 95) hx hb dK_moveData_43 (by rw [h3]; decide) (by rw [h3]; decide) (by rw [h3]; rfl) rfl ?_
    refine lv_aload_n hx hb dK_moveData_95 rfl (lv_at hl 4 rfl) ?_
    refine lv_iload_n hx hb dK_moveData_96 rfl (lv_at hl 3 rfl) ?_
    refine lv_aload_n hx hb dK_moveData_97 rfl (lv_at hl 4 rfl) ?_
    refine lv_iload hx hb dK_moveData_98 (lv_at hl 2 rfl) ?_
    refine kald_8 hx hb hC hP (vin_m 3 (by decide) (by decide) (by decide)) dK_moveData_100 ?_
    refine lv_aload_n hx hb dK_moveData_101 rfl (lv_at hl 4 rfl) ?_
    refine lv_iload hx hb dK_moveData_102 (lv_at hl 1 rfl) ?_
    refine kald_8 hx hb hC hP (vin_m 3 (by decide) (by decide) (by decide)) dK_moveData_104 ?_
    refine lv_iadd hx hb dK_moveData_105 ?_
    refine lv_ldc (v := 65535) hx hb hown (hts _ wK_c39) dK_moveData_106 ?_
    refine lv_iand hx hb dK_moveData_108 ?_
    refine kast_8 hx hb hC hP hS (vin_m 3 (by decide) (by decide) (by decide)) dK_moveData_109 (fun σ4 H locs e4 hP hS => ?_)
    have hE := hE.trans (bd_e e4)
    have hB : KB σ4 := by rw [e4]; exact hB
    refine lv_goto (tgt := 203) hx hb dK_moveData_110 rfl ?_
    have hl := lv_sub hl [] rfl
    exact b203 _ _ _ _ hE hl hP hB hS
  have hE := hE.trans (if_neg h3)
  rcases Classical.em ((a1 >>> ((12 : Int32) &&& 31)) = 2) with h5 | h5
  · have hE := hE.trans (if_pos h5)
    refine lv_tableIn (tgt := 113) hx hb dK_moveData_43 (by rw [h5]; decide) (by rw [h5]; decide) (by rw [h5]; rfl) rfl ?_
    refine lv_aload_n hx hb dK_moveData_113 rfl (lv_at hl 4 rfl) ?_
    refine lv_iload_n hx hb dK_moveData_114 rfl (lv_at hl 3 rfl) ?_
    refine lv_aload_n hx hb dK_moveData_115 rfl (lv_at hl 4 rfl) ?_
    refine lv_iload hx hb dK_moveData_116 (lv_at hl 2 rfl) ?_
    refine kald_8 hx hb hC hP (vin_m 3 (by decide) (by decide) (by decide)) dK_moveData_118 ?_
    refine lv_aload_n hx hb dK_moveData_119 rfl (lv_at hl 4 rfl) ?_
    refine lv_iload hx hb dK_moveData_120 (lv_at hl 1 rfl) ?_
    refine kald_8 hx hb hC hP (vin_m 3 (by decide) (by decide) (by decide)) dK_moveData_122 ?_
    refine lv_isub hx hb dK_moveData_123 ?_
    refine lv_ldc (v := 65535) hx hb hown (hts _ wK_c39) dK_moveData_124 ?_
    refine lv_iand hx hb dK_moveData_126 ?_
    refine kast_8 hx hb hC hP hS (vin_m 3 (by decide) (by decide) (by decide)) dK_moveData_127 (fun σ6 H locs e6 hP hS => ?_)
    have hE := hE.trans (bd_e e6)
    have hB : KB σ6 := by rw [e6]; exact hB
    refine lv_aload_n hx hb dK_moveData_128 rfl (lv_at hl 5 rfl) ?_
    refine kget_0_5 hx hb hts inK hown hC hP (hts _ wK_f28) dK_moveData_129 ?_
    refine lv_aload_n hx hb dK_moveData_132 rfl (lv_at hl 4 rfl) ?_
    refine lv_iload_n hx hb dK_moveData_133 rfl (lv_at hl 3 rfl) ?_
    refine kald_8 hx hb hC hP (vin_m 3 (by decide) (by decide) (by decide)) dK_moveData_134 ?_
    refine lv_if_ne (tgt := 142) hx hb dK_moveData_135 rfl (fun h7 => ?_) (fun h7 => ?_)
    · have hE := hE.trans (if_neg h7)
      refine lv_iconst (v := 0) hx hb dK_moveData_142 (by decide) ?_
      have hl := lv_sub hl [] rfl
      exact b143 _ _ _ _ 0 (by decide) hE hl hP hB hS
    · have hE := hE.trans (if_pos h7)
      refine lv_iconst (v := 1) hx hb dK_moveData_138 (by decide) ?_
      refine lv_goto (tgt := 143) hx hb dK_moveData_139 rfl ?_
      have hl := lv_sub hl [] rfl
      exact b143 _ _ _ _ 1 (by decide) hE hl hP hB hS
  have hE := hE.trans (if_neg h5)
  rcases Classical.em ((a1 >>> ((12 : Int32) &&& 31)) = 3) with h9 | h9
  · have hE := hE.trans (if_pos h9)
    refine lv_tableIn (tgt := 149) hx hb dK_moveData_43 (by rw [h9]; decide) (by rw [h9]; decide) (by rw [h9]; rfl) rfl ?_
    refine lv_aload_n hx hb dK_moveData_149 rfl (lv_at hl 4 rfl) ?_
    refine lv_iload_n hx hb dK_moveData_150 rfl (lv_at hl 3 rfl) ?_
    refine lv_aload_n hx hb dK_moveData_151 rfl (lv_at hl 5 rfl) ?_
    refine lv_aload_n hx hb dK_moveData_152 rfl (lv_at hl 4 rfl) ?_
    refine lv_iload hx hb dK_moveData_153 (lv_at hl 2 rfl) ?_
    refine kald_8 hx hb hC hP (vin_m 3 (by decide) (by decide) (by decide)) dK_moveData_155 ?_
    refine lv_iload hx hb dK_moveData_156 (lv_at hl 0 rfl) ?_
    refine lv_iadd hx hb dK_moveData_158 ?_
    refine kcalli (rest := [.int ((a1 >>> ((9 : Int32) &&& 31)) &&& 7), .ref (q 8)]) ⟨hx, hb, hml, hown, hts⟩ hC hP hB hS (c_k_read l D q cA tN σ0 ((σ0 8 (ix ((a1 >>> ((6 : Int32) &&& 31)) &&& 7))) + (a1 &&& 63))) (cwV 1 hts gK_131 rfl rfl rfl hdK_read ⟨Nat.le_of_ble_eq_true rfl, Nat.le_of_ble_eq_true rfl⟩) (krv_0 hC hP) rfl hl.1 rfl (Nat.le_of_ble_eq_true rfl) dK_moveData_159 (fun σ10 v11 H locs e10 hP hB hS => ?_)
    have hE := hE.trans (bd2_e e10)
    refine kast_8 hx hb hC hP hS (vin_m 3 (by decide) (by decide) (by decide)) dK_moveData_162 (fun σ12 H locs e12 hP hS => ?_)
    have hE := hE.trans (bd_e e12)
    have hB : KB σ12 := by rw [e12]; exact hB
    refine lv_goto (tgt := 203) hx hb dK_moveData_163 rfl ?_
    have hl := lv_sub hl [] rfl
    exact b203 _ _ _ _ hE hl hP hB hS
  have hE := hE.trans (if_neg h9)
  rcases Classical.em ((a1 >>> ((12 : Int32) &&& 31)) = 4) with h13 | h13
  · have hE := hE.trans (if_pos h13)
    refine lv_tableIn (tgt := 166) hx hb dK_moveData_43 (by rw [h13]; decide) (by rw [h13]; decide) (by rw [h13]; rfl) rfl ?_
    refine lv_aload_n hx hb dK_moveData_166 rfl (lv_at hl 5 rfl) ?_
    refine lv_aload_n hx hb dK_moveData_167 rfl (lv_at hl 4 rfl) ?_
    refine lv_iload hx hb dK_moveData_168 (lv_at hl 2 rfl) ?_
    refine kald_8 hx hb hC hP (vin_m 3 (by decide) (by decide) (by decide)) dK_moveData_170 ?_
    refine lv_iload hx hb dK_moveData_171 (lv_at hl 0 rfl) ?_
    refine lv_iadd hx hb dK_moveData_173 ?_
    refine lv_aload_n hx hb dK_moveData_174 rfl (lv_at hl 4 rfl) ?_
    refine lv_iload_n hx hb dK_moveData_175 rfl (lv_at hl 3 rfl) ?_
    refine kald_8 hx hb hC hP (vin_m 3 (by decide) (by decide) (by decide)) dK_moveData_176 ?_
    refine kcallv (rest := []) ⟨hx, hb, hml, hown, hts⟩ hC hP hB hS (c_k_write l D q cA tN σ0 ((σ0 8 (ix ((a1 >>> ((6 : Int32) &&& 31)) &&& 7))) + (a1 &&& 63)) (σ0 8 (ix ((a1 >>> ((9 : Int32) &&& 31)) &&& 7)))) (cwV 2 hts gK_134 rfl rfl rfl hdK_write ⟨Nat.le_of_ble_eq_true rfl, Nat.le_of_ble_eq_true rfl⟩) (krv_0 hC hP) rfl hl.1 rfl (Nat.le_of_ble_eq_true rfl) dK_moveData_177 (fun σ14 H locs e14 hP hB hS => ?_)
    have hE := hE.trans (bd_e e14)
    refine lv_goto (tgt := 203) hx hb dK_moveData_180 rfl ?_
    have hl := lv_sub hl [] rfl
    exact b203 _ _ _ _ hE hl hP hB hS
  have hE := hE.trans (if_neg h13)
  rcases Classical.em ((a1 >>> ((12 : Int32) &&& 31)) = 5) with h15 | h15
  · have hE := hE.trans (if_pos h15)
    refine lv_tableIn (tgt := 183) hx hb dK_moveData_43 (by rw [h15]; decide) (by rw [h15]; decide) (by rw [h15]; rfl) rfl ?_
    refine lv_aload_n hx hb dK_moveData_183 rfl (lv_at hl 5 rfl) ?_
    refine lv_aload_n hx hb dK_moveData_184 rfl (lv_at hl 4 rfl) ?_
    refine lv_iload_n hx hb dK_moveData_185 rfl (lv_at hl 3 rfl) ?_
    refine kald_8 hx hb hC hP (vin_m 3 (by decide) (by decide) (by decide)) dK_moveData_186 ?_
    refine kcallv (rest := []) ⟨hx, hb, hml, hown, hts⟩ hC hP hB hS (c_k_push l D q cA tN σ0 (σ0 8 (ix ((a1 >>> ((9 : Int32) &&& 31)) &&& 7)))) (cwV 1 hts gK_138 rfl rfl rfl hdK_push ⟨Nat.le_of_ble_eq_true rfl, Nat.le_of_ble_eq_true rfl⟩) (krv_0 hC hP) rfl hl.1 rfl (Nat.le_of_ble_eq_true rfl) dK_moveData_187 (fun σ16 H locs e16 hP hB hS => ?_)
    have hE := hE.trans (bd_e e16)
    refine lv_goto (tgt := 203) hx hb dK_moveData_190 rfl ?_
    have hl := lv_sub hl [] rfl
    exact b203 _ _ _ _ hE hl hP hB hS
  have hE := hE.trans (if_neg h15)
  rcases Classical.em ((a1 >>> ((12 : Int32) &&& 31)) = 6) with h17 | h17
  · have hE := hE.trans (if_pos h17)
    refine lv_tableIn (tgt := 193) hx hb dK_moveData_43 (by rw [h17]; decide) (by rw [h17]; decide) (by rw [h17]; rfl) rfl ?_
    refine lv_aload_n hx hb dK_moveData_193 rfl (lv_at hl 4 rfl) ?_
    refine lv_iload_n hx hb dK_moveData_194 rfl (lv_at hl 3 rfl) ?_
    refine lv_aload_n hx hb dK_moveData_195 rfl (lv_at hl 5 rfl) ?_
    refine kcalli (rest := [.int ((a1 >>> ((9 : Int32) &&& 31)) &&& 7), .ref (q 8)]) ⟨hx, hb, hml, hown, hts⟩ hC hP hB hS (c_k_pop l D q cA tN σ0) (cwV 0 hts gK_141 rfl rfl rfl hdK_pop ⟨Nat.le_of_ble_eq_true rfl, Nat.le_of_ble_eq_true rfl⟩) (krv_0 hC hP) rfl hl.1 rfl (Nat.le_of_ble_eq_true rfl) dK_moveData_196 (fun σ18 v19 H locs e18 hP hB hS => ?_)
    have hE := hE.trans (bd2_e e18)
    refine kast_8 hx hb hC hP hS (vin_m 3 (by decide) (by decide) (by decide)) dK_moveData_199 (fun σ20 H locs e20 hP hS => ?_)
    have hE := hE.trans (bd_e e20)
    have hB : KB σ20 := by rw [e20]; exact hB
    refine lv_goto (tgt := 203) hx hb dK_moveData_200 rfl ?_
    have hl := lv_sub hl [] rfl
    exact b203 _ _ _ _ hE hl hP hB hS
  have hE := hE.trans (if_neg h17)
  · refine lv_tableOut (tgt := 203) hx hb dK_moveData_43 (by have n0 := ne_t 0 0 (by decide) h1; have n1 := ne_t 1 1 (by decide) h3; have n2 := ne_t 2 2 (by decide) h5; have n3 := ne_t 3 3 (by decide) h9; have n4 := ne_t 4 4 (by decide) h13; have n5 := ne_t 5 5 (by decide) h15; have n6 := ne_t 6 6 (by decide) h17; omega) rfl ?_
    have hl := lv_sub hl [] rfl
    exact b203 _ _ _ _ hE hl hP hB hS
set_option maxRecDepth 100000 in
set_option maxHeartbeats 4000000 in
theorem c_k_isUnknown (l : Launch) (D : va_G) (q : Nat → Nat) (cA : ClassId) (tN : Nat) (σ0 : St) (a1 : Int32) : Met l yK_isUnknown wsK_isUnknown { frames := 0, cells := 0, slots := 0, locals := 0 } (va_Pc [.ref (q 0), .int a1] (KPre D q cA tN σ0)) (va_Qi (fun r u => (u, r) = k_isUnknown σ0 a1 ∧ zb r) (KPost D q cA) (KA q)) 0 0 (KA q) := by
  refine Met.ofW (cc := cK_isUnknown) (maxL := 4) (ret := (some .boolean)) (by decide) rfl ?_
  intro p e s m args below meth c s₁ B hml hv
  obtain ⟨rfl, hP, hB, hC⟩ := hv
  have hx := B.exec
  have hb := B.bytes
  have hr := B.returns
  have hts : ∀ w ∈ gw, w.before ([.ref (q 0), .int a1] : List Value).toArray s = true := fun w h => atoms_spec (ws := wsK_isUnknown) B.pre w (List.mem_cons_of_mem _ h)
  have hown : s.vm.findClass RK = some m.cls := findClass_of_methodNamed B.named
  have hlocks := B.notSynchronized
  have hS : va_S (KA q) s.heap s.heap [] := va_S.rf
  have hl := lv_entry ([.ref (q 0), .int a1]) (n := 4) (Nat.le_of_ble_eq_true rfl)
  rw [lg_entry_eq]
  generalize (lg_sl ([.ref (q 0), .int a1]) ++ List.replicate (4 - (lg_sl ([.ref (q 0), .int a1])).length) Slot.unset).toArray = ls at hl ⊢
  have hl : lv_has ls 4 [(0, .ref (q 0)), (1, .int a1)] := hl
  have hE : k_isUnknown σ0 a1 = k_isUnknown σ0 a1 := rfl
  have b102 : ∀ (H : Heap) (locs : List Loc) (ls : Array Slot) (σ : St) (y0 : Int32), zb y0 → k_isUnknown σ0 a1 = k_isUnknown_102 σ y0 → lv_has ls 4 [] → va_P D vwCl (wsK q cA σ) H → KB σ → va_S (KA q) s.heap H locs → W p l e (headSpec wsK_isUnknown { frames := 0, cells := 0, slots := 0, locals := 0 }).room s m ([.ref (q 0), .int a1] : List Value).toArray below meth c H locs 0 0 (MQ below (va_Qi (fun r u => (u, r) = k_isUnknown σ0 a1 ∧ zb r) (KPost D q cA) (KA q)) ([.ref (q 0), .int a1] : List Value).toArray s 0 0 (KA q)) (F0 m 102 ls [.int y0]) := by
    intro H locs ls σ y0 hz_y0 hE hl hP hB hS
    exact W.zret (v := y0) hx hb hr (zb_n hz_y0).1 (fun t ht hW => ⟨⟨y0, σ, rfl, ⟨hE.symm, hz_y0⟩, ⟨by rw [ht]; exact hP, hB⟩⟩, hS.F ht⟩) hS.2.2 dK_isUnknown_102
  have b101 : ∀ (H : Heap) (locs : List Loc) (ls : Array Slot) (σ : St), k_isUnknown σ0 a1 = k_isUnknown_101 σ → lv_has ls 4 [] → va_P D vwCl (wsK q cA σ) H → KB σ → va_S (KA q) s.heap H locs → W p l e (headSpec wsK_isUnknown { frames := 0, cells := 0, slots := 0, locals := 0 }).room s m ([.ref (q 0), .int a1] : List Value).toArray below meth c H locs 0 0 (MQ below (va_Qi (fun r u => (u, r) = k_isUnknown σ0 a1 ∧ zb r) (KPost D q cA) (KA q)) ([.ref (q 0), .int a1] : List Value).toArray s 0 0 (KA q)) (F0 m 101 ls []) := by
    intro H locs ls σ hE hl hP hB hS
    refine lv_iconst (v := 0) hx hb dK_isUnknown_101 (by decide) ?_
    exact b102 _ _ _ _ 0 (by decide) hE hl hP hB hS
  have b97 : ∀ (H : Heap) (locs : List Loc) (ls : Array Slot) (σ : St), k_isUnknown σ0 a1 = k_isUnknown_97 σ → lv_has ls 4 [] → va_P D vwCl (wsK q cA σ) H → KB σ → va_S (KA q) s.heap H locs → W p l e (headSpec wsK_isUnknown { frames := 0, cells := 0, slots := 0, locals := 0 }).room s m ([.ref (q 0), .int a1] : List Value).toArray below meth c H locs 0 0 (MQ below (va_Qi (fun r u => (u, r) = k_isUnknown σ0 a1 ∧ zb r) (KPost D q cA) (KA q)) ([.ref (q 0), .int a1] : List Value).toArray s 0 0 (KA q)) (F0 m 97 ls []) := by
    intro H locs ls σ hE hl hP hB hS
    refine lv_iconst (v := 1) hx hb dK_isUnknown_97 (by decide) ?_
    refine lv_goto (tgt := 102) hx hb dK_isUnknown_98 rfl ?_
    exact b102 _ _ _ _ 1 (by decide) hE hl hP hB hS
  have b80 : ∀ (H : Heap) (locs : List Loc) (ls : Array Slot) (σ : St) (x1 : Int32) (x3 : Int32), k_isUnknown σ0 a1 = k_isUnknown_80 σ x1 x3 → lv_has ls 4 [(1, .int x1), (3, .int x3)] → va_P D vwCl (wsK q cA σ) H → KB σ → va_S (KA q) s.heap H locs → W p l e (headSpec wsK_isUnknown { frames := 0, cells := 0, slots := 0, locals := 0 }).room s m ([.ref (q 0), .int a1] : List Value).toArray below meth c H locs 0 0 (MQ below (va_Qi (fun r u => (u, r) = k_isUnknown σ0 a1 ∧ zb r) (KPost D q cA) (KA q)) ([.ref (q 0), .int a1] : List Value).toArray s 0 0 (KA q)) (F0 m 80 ls []) := by
    intro H locs ls σ x1 x3 hE hl hP hB hS
    refine lv_iload_n hx hb dK_isUnknown_80 rfl (lv_at hl 1 rfl) ?_
    refine lv_iconst (v := 4) hx hb dK_isUnknown_81 (by decide) ?_
    refine lv_iand hx hb dK_isUnknown_82 ?_
    refine lv_if_eq (tgt := 101) hx hb dK_isUnknown_83 rfl (fun h5 => ?_) (fun h5 => ?_)
    · have hE := hE.trans (if_pos h5)
      have hl := lv_sub hl [] rfl
      exact b101 _ _ _ _ hE hl hP hB hS
    · have hE := hE.trans (if_neg h5)
      refine lv_iload_n hx hb dK_isUnknown_86 rfl (lv_at hl 0 rfl) ?_
      refine lv_iconst (v := 3) hx hb dK_isUnknown_87 (by decide) ?_
      refine lv_ishr hx hb dK_isUnknown_88 ?_
      refine lv_bipush (v := 7) hx hb dK_isUnknown_89 (by decide) ?_
      refine lv_iand hx hb dK_isUnknown_91 ?_
      refine lv_bipush (v := 7) hx hb dK_isUnknown_92 (by decide) ?_
      refine lv_icmp_ne (tgt := 101) hx hb dK_isUnknown_94 rfl (fun h6 => ?_) (fun h6 => ?_)
      · have hE := hE.trans (if_neg h6)
        have hl := lv_sub hl [] rfl
        exact b101 _ _ _ _ hE hl hP hB hS
      · have hE := hE.trans (if_pos h6)
        have hl := lv_sub hl [] rfl
        exact b97 _ _ _ _ hE hl hP hB hS
  have b62 : ∀ (H : Heap) (locs : List Loc) (ls : Array Slot) (σ : St) (x1 : Int32) (x3 : Int32), k_isUnknown σ0 a1 = k_isUnknown_62 σ x1 x3 → lv_has ls 4 [(1, .int x1), (3, .int x3)] → va_P D vwCl (wsK q cA σ) H → KB σ → va_S (KA q) s.heap H locs → W p l e (headSpec wsK_isUnknown { frames := 0, cells := 0, slots := 0, locals := 0 }).room s m ([.ref (q 0), .int a1] : List Value).toArray below meth c H locs 0 0 (MQ below (va_Qi (fun r u => (u, r) = k_isUnknown σ0 a1 ∧ zb r) (KPost D q cA) (KA q)) ([.ref (q 0), .int a1] : List Value).toArray s 0 0 (KA q)) (F0 m 62 ls []) := by
    intro H locs ls σ x1 x3 hE hl hP hB hS
    refine lv_iload_n hx hb dK_isUnknown_62 rfl (lv_at hl 1 rfl) ?_
    refine lv_iconst (v := 2) hx hb dK_isUnknown_63 (by decide) ?_
    refine lv_iand hx hb dK_isUnknown_64 ?_
    refine lv_if_eq (tgt := 80) hx hb dK_isUnknown_65 rfl (fun h4 => ?_) (fun h4 => ?_)
    · have hE := hE.trans (if_pos h4)
      exact b80 _ _ _ _ x1 x3 hE hl hP hB hS
    · have hE := hE.trans (if_neg h4)
      refine lv_iload_n hx hb dK_isUnknown_68 rfl (lv_at hl 0 rfl) ?_
      refine lv_bipush (v := 6) hx hb dK_isUnknown_69 (by decide) ?_
      refine lv_ishr hx hb dK_isUnknown_71 ?_
      refine lv_bipush (v := 7) hx hb dK_isUnknown_72 (by decide) ?_
      refine lv_iand hx hb dK_isUnknown_74 ?_
      refine lv_bipush (v := 7) hx hb dK_isUnknown_75 (by decide) ?_
      refine lv_icmp_eq (tgt := 97) hx hb dK_isUnknown_77 rfl (fun h7 => ?_) (fun h7 => ?_)
      · have hE := hE.trans (if_pos h7)
        have hl := lv_sub hl [] rfl
        exact b97 _ _ _ _ hE hl hP hB hS
      · have hE := hE.trans (if_neg h7)
        exact b80 _ _ _ _ x1 x3 hE hl hP hB hS
  have b38 : ∀ (H : Heap) (locs : List Loc) (ls : Array Slot) (σ : St) (x1 : Int32) (x2 : Int32), vp_in x2 16 → k_isUnknown σ0 a1 = k_isUnknown_38 σ x1 x2 → lv_has ls 4 [(1, .int x1), (2, .int x2)] → va_P D vwCl (wsK q cA σ) H → KB σ → va_S (KA q) s.heap H locs → W p l e (headSpec wsK_isUnknown { frames := 0, cells := 0, slots := 0, locals := 0 }).room s m ([.ref (q 0), .int a1] : List Value).toArray below meth c H locs 0 0 (MQ below (va_Qi (fun r u => (u, r) = k_isUnknown σ0 a1 ∧ zb r) (KPost D q cA) (KA q)) ([.ref (q 0), .int a1] : List Value).toArray s 0 0 (KA q)) (F0 m 38 ls []) := by
    intro H locs ls σ x1 x2 hin16_x2 hE hl hP hB hS
    refine kgets hx hb hC hS hown (hts _ wK_f128) dK_isUnknown_38 ?_
    refine lv_iload_n hx hb dK_isUnknown_41 rfl (lv_at hl 1 rfl) ?_
    refine knald hx hb hC hS hin16_x2 dK_isUnknown_42 ?_
    refine lv_istore_n (lv' := [(3, .int (named (ix x2))), (1, .int x1), (2, .int x2)]) hx hb dK_isUnknown_43 rfl hl (by decide) rfl (fun ls hl => ?_)
    refine lv_iload_n hx hb dK_isUnknown_44 rfl (lv_at hl 0 rfl) ?_
    refine lv_iconst (v := 1) hx hb dK_isUnknown_45 (by decide) ?_
    refine lv_iand hx hb dK_isUnknown_46 ?_
    refine lv_if_eq (tgt := 62) hx hb dK_isUnknown_47 rfl (fun h3 => ?_) (fun h3 => ?_)
    · have hE := hE.trans (if_pos h3)
      have hl := lv_sub hl [1, 0] rfl
      exact b62 _ _ _ _ x1 (named (ix x2)) hE hl hP hB hS
    · have hE := hE.trans (if_neg h3)
      refine lv_iload_n hx hb dK_isUnknown_50 rfl (lv_at hl 1 rfl) ?_
      refine lv_bipush (v := 9) hx hb dK_isUnknown_51 (by decide) ?_
      refine lv_ishr hx hb dK_isUnknown_53 ?_
      refine lv_bipush (v := 7) hx hb dK_isUnknown_54 (by decide) ?_
      refine lv_iand hx hb dK_isUnknown_56 ?_
      refine lv_bipush (v := 7) hx hb dK_isUnknown_57 (by decide) ?_
      refine lv_icmp_eq (tgt := 97) hx hb dK_isUnknown_59 rfl (fun h8 => ?_) (fun h8 => ?_)
      · have hE := hE.trans (if_pos h8)
        have hl := lv_sub hl [] rfl
        exact b97 _ _ _ _ hE hl hP hB hS
      · have hE := hE.trans (if_neg h8)
        have hl := lv_sub hl [1, 0] rfl
        exact b62 _ _ _ _ x1 (named (ix x2)) hE hl hP hB hS
  have b36 : ∀ (H : Heap) (locs : List Loc) (ls : Array Slot) (σ : St), k_isUnknown σ0 a1 = k_isUnknown_36 σ → lv_has ls 4 [] → va_P D vwCl (wsK q cA σ) H → KB σ → va_S (KA q) s.heap H locs → W p l e (headSpec wsK_isUnknown { frames := 0, cells := 0, slots := 0, locals := 0 }).room s m ([.ref (q 0), .int a1] : List Value).toArray below meth c H locs 0 0 (MQ below (va_Qi (fun r u => (u, r) = k_isUnknown σ0 a1 ∧ zb r) (KPost D q cA) (KA q)) ([.ref (q 0), .int a1] : List Value).toArray s 0 0 (KA q)) (F0 m 36 ls []) := by
    intro H locs ls σ hE hl hP hB hS
    refine lv_iconst (v := 1) hx hb dK_isUnknown_36 (by decide) ?_
    exact W.zret (v := 1) hx hb hr (zb_n (by decide)).1 (fun t ht hW => ⟨⟨1, σ, rfl, ⟨hE.symm, (by decide)⟩, ⟨by rw [ht]; exact hP, hB⟩⟩, hS.F ht⟩) hS.2.2 dK_isUnknown_37
  refine lv_iload_n hx hb dK_isUnknown_0 rfl (lv_at hl 1 rfl) ?_
  refine lv_bipush (v := 12) hx hb dK_isUnknown_1 (by decide) ?_
  refine lv_ishr hx hb dK_isUnknown_3 ?_
  refine lv_bipush (v := 15) hx hb dK_isUnknown_4 (by decide) ?_
  refine lv_iand hx hb dK_isUnknown_6 ?_
  refine lv_istore_n (lv' := [(2, .int ((a1 >>> ((12 : Int32) &&& 31)) &&& 15)), (0, .ref (q 0)), (1, .int a1)]) hx hb dK_isUnknown_7 rfl hl (by decide) rfl (fun ls hl => ?_)
  refine lv_aload_n hx hb dK_isUnknown_8 rfl (lv_at hl 1 rfl) ?_
  refine kget_0_5 hx hb hts inK hown hC hP (hts _ wK_f28) dK_isUnknown_9 ?_
  refine kget_6_5 hx hb hts inQ hown hC hP (hts _ wK_f64) dK_isUnknown_12 ?_
  have z1 : zb (σ0 6 5) := KB_6_5 hB
  refine lv_if_eq (tgt := 38) hx hb dK_isUnknown_15 rfl (fun h2 => ?_) (fun h2 => ?_)
  · have hE := hE.trans (if_pos h2)
    have hl := lv_sub hl [2, 0] rfl
    exact b38 _ _ _ _ a1 ((a1 >>> ((12 : Int32) &&& 31)) &&& 15) (vin_m 4 (by decide) (by decide) (by decide)) hE hl hP hB hS
  · have hE := hE.trans (if_neg h2)
    refine lv_iload_n hx hb dK_isUnknown_18 rfl (lv_at hl 0 rfl) ?_
    refine lv_bipush (v := 11) hx hb dK_isUnknown_19 (by decide) ?_
    refine lv_icmp_eq (tgt := 36) hx hb dK_isUnknown_21 rfl (fun h9 => ?_) (fun h9 => ?_)
    · have hE := hE.trans (if_pos h9)
      have hl := lv_sub hl [] rfl
      exact b36 _ _ _ _ hE hl hP hB hS
    · have hE := hE.trans (if_neg h9)
      refine lv_iload_n hx hb dK_isUnknown_24 rfl (lv_at hl 0 rfl) ?_
      refine lv_bipush (v := 12) hx hb dK_isUnknown_25 (by decide) ?_
      refine lv_icmp_eq (tgt := 36) hx hb dK_isUnknown_27 rfl (fun h10 => ?_) (fun h10 => ?_)
      · have hE := hE.trans (if_pos h10)
        have hl := lv_sub hl [] rfl
        exact b36 _ _ _ _ hE hl hP hB hS
      · have hE := hE.trans (if_neg h10)
        refine lv_iload_n hx hb dK_isUnknown_30 rfl (lv_at hl 0 rfl) ?_
        refine lv_bipush (v := 15) hx hb dK_isUnknown_31 (by decide) ?_
        refine lv_icmp_ne (tgt := 38) hx hb dK_isUnknown_33 rfl (fun h11 => ?_) (fun h11 => ?_)
        · have hE := hE.trans (if_neg h11)
          have hl := lv_sub hl [2, 0] rfl
          exact b38 _ _ _ _ a1 ((a1 >>> ((12 : Int32) &&& 31)) &&& 15) (vin_m 4 (by decide) (by decide) (by decide)) hE hl hP hB hS
        · have hE := hE.trans (if_pos h11)
          have hl := lv_sub hl [] rfl
          exact b36 _ _ _ _ hE hl hP hB hS
