set_option maxRecDepth 100000 in
set_option maxHeartbeats 4000000 in
theorem c_k_write (l : Launch) (D : va_G) (q : Nat → Nat) (cA : ClassId) (tN : Nat) (σ0 : St) (a1 : Int32) (a2 : Int32) : Met l yK_write wsK_write { frames := 0, cells := 0, slots := 0, locals := 0 } (va_Pc [.ref (q 0), .int a1, .int a2] (KPre D q cA tN σ0)) (va_Qv (fun u => u = k_write σ0 a1 a2) (KPost D q cA) (KA q)) 0 0 (KA q) := by
  refine Met.ofW (cc := cK_write) (maxL := 4) (ret := none) (by decide) rfl ?_
  intro p e s m args below meth c s₁ B hml hv
  obtain ⟨rfl, hP, hB, hC⟩ := hv
  have hx := B.exec
  have hb := B.bytes
  have hr := B.returns
  have hts : ∀ w ∈ gw, w.before ([.ref (q 0), .int a1, .int a2] : List Value).toArray s = true := fun w h => atoms_spec (ws := wsK_write) B.pre w (List.mem_cons_of_mem _ h)
  have hown : s.vm.findClass RK = some m.cls := findClass_of_methodNamed B.named
  have hlocks := B.notSynchronized
  have hS : va_S (KA q) s.heap s.heap [] := va_S.rf
  have hl := lv_entry ([.ref (q 0), .int a1, .int a2]) (n := 4) (Nat.le_of_ble_eq_true rfl)
  rw [lg_entry_eq]
  generalize (lg_sl ([.ref (q 0), .int a1, .int a2]) ++ List.replicate (4 - (lg_sl ([.ref (q 0), .int a1, .int a2])).length) Slot.unset).toArray = ls at hl ⊢
  have hl : lv_has ls 4 [(0, .ref (q 0)), (1, .int a1), (2, .int a2)] := hl
  have hE : k_write σ0 a1 a2 = k_write σ0 a1 a2 := rfl
  have b45 : ∀ (H : Heap) (locs : List Loc) (ls : Array Slot) (σ : St), k_write σ0 a1 a2 = k_write_45 σ → lv_has ls 4 [] → va_P D vwCl (wsK q cA σ) H → KB σ → va_S (KA q) s.heap H locs → W p l e (headSpec wsK_write { frames := 0, cells := 0, slots := 0, locals := 0 }).room s m ([.ref (q 0), .int a1, .int a2] : List Value).toArray below meth c H locs 0 0 (MQ below (va_Qv (fun u => u = k_write σ0 a1 a2) (KPost D q cA) (KA q)) ([.ref (q 0), .int a1, .int a2] : List Value).toArray s 0 0 (KA q)) (F0 m 45 ls []) := by
    intro H locs ls σ hE hl hP hB hS
    exact W.vret hx hb hr (fun t ht hW => ⟨⟨σ, rfl, hE.symm, ⟨by rw [ht]; exact hP, hB⟩⟩, hS.F ht⟩) hS.2.2 dK_write_45
  have b31 : ∀ (H : Heap) (locs : List Loc) (ls : Array Slot) (σ : St) (x2 : Int32) (x3 : Int32), vp_in x3 256 → k_write σ0 a1 a2 = k_write_31 σ x2 x3 → lv_has ls 4 [(0, .ref (q 0)), (2, .int x2), (3, .int x3)] → va_P D vwCl (wsK q cA σ) H → KB σ → va_S (KA q) s.heap H locs → W p l e (headSpec wsK_write { frames := 0, cells := 0, slots := 0, locals := 0 }).room s m ([.ref (q 0), .int a1, .int a2] : List Value).toArray below meth c H locs 0 0 (MQ below (va_Qv (fun u => u = k_write σ0 a1 a2) (KPost D q cA) (KA q)) ([.ref (q 0), .int a1, .int a2] : List Value).toArray s 0 0 (KA q)) (F0 m 31 ls []) := by
    intro H locs ls σ x2 x3 hin256_x3 hE hl hP hB hS
    refine lv_aload_n hx hb dK_write_31 rfl (lv_at hl 0 rfl) ?_
    refine kget_0_14 hx hb hts inK hown hC hP (hts _ wK_f101) dK_write_32 ?_
    refine lv_if_ne (tgt := 45) hx hb dK_write_35 rfl (fun h3 => ?_) (fun h3 => ?_)
    · have hE := hE.trans (if_neg h3)
      have hl := lv_sub hl [] rfl
      exact b45 _ _ _ _ hE hl hP hB hS
    · have hE := hE.trans (if_pos h3)
      refine lv_aload_n hx hb dK_write_38 rfl (lv_at hl 0 rfl) ?_
      refine kget_0_0 hx hb hts inK hown hC hP (hts _ wK_f9) dK_write_39 ?_
      refine lv_iload_n hx hb dK_write_42 rfl (lv_at hl 2 rfl) ?_
      refine lv_iload_n hx hb dK_write_43 rfl (lv_at hl 1 rfl) ?_
      refine kast_1 hx hb hC hP hS hin256_x3 dK_write_44 (fun σ4 H locs e4 hP hS => ?_)
      have hE := hE.trans (bd_e e4)
      have hB : KB σ4 := by rw [e4]; exact hB
      have hl := lv_sub hl [] rfl
      exact b45 _ _ _ _ hE hl hP hB hS
  refine lv_iload_n hx hb dK_write_0 rfl (lv_at hl 1 rfl) ?_
  refine lv_sipush (v := 255) hx hb dK_write_1 (by decide) ?_
  refine lv_iand hx hb dK_write_4 ?_
  refine lv_istore_n (lv' := [(3, .int (a1 &&& 255)), (0, .ref (q 0)), (1, .int a1), (2, .int a2)]) hx hb dK_write_5 rfl hl (by decide) rfl (fun ls hl => ?_)
  refine lv_aload_n hx hb dK_write_6 rfl (lv_at hl 1 rfl) ?_
  refine kget_0_5 hx hb hts inK hown hC hP (hts _ wK_f28) dK_write_7 ?_
  refine kget_6_5 hx hb hts inQ hown hC hP (hts _ wK_f64) dK_write_10 ?_
  have z1 : zb (σ0 6 5) := KB_6_5 hB
  refine lv_if_eq (tgt := 31) hx hb dK_write_13 rfl (fun h2 => ?_) (fun h2 => ?_)
  · have hE := hE.trans (if_pos h2)
    have hl := lv_sub hl [1, 3, 0] rfl
    exact b31 _ _ _ _ a2 (a1 &&& 255) (vin_m 8 (by decide) (by decide) (by decide)) hE hl hP hB hS
  · have hE := hE.trans (if_neg h2)
    refine lv_aload_n hx hb dK_write_16 rfl (lv_at hl 1 rfl) ?_
    refine kget_0_1 hx hb hts inK hown hC hP (hts _ wK_f13) dK_write_17 ?_
    refine lv_iload_n hx hb dK_write_20 rfl (lv_at hl 0 rfl) ?_
    refine kald_2 hx hb hC hP (vin_m 8 (by decide) (by decide) (by decide)) dK_write_21 ?_
    refine lv_iconst (v := 1) hx hb dK_write_22 (by decide) ?_
    refine lv_icmp_eq (tgt := 31) hx hb dK_write_23 rfl (fun h5 => ?_) (fun h5 => ?_)
    · have hE := hE.trans (if_pos h5)
      have hl := lv_sub hl [1, 3, 0] rfl
      exact b31 _ _ _ _ a2 (a1 &&& 255) (vin_m 8 (by decide) (by decide) (by decide)) hE hl hP hB hS
    · have hE := hE.trans (if_neg h5)
      refine lv_aload_n hx hb dK_write_26 rfl (lv_at hl 1 rfl) ?_
      refine lv_iconst (v := 2) hx hb dK_write_27 (by decide) ?_
      refine kput_0_14 hx hb hts inK hown hC hP (hts _ wK_f101) hS dK_write_28 (fun σ6 H locs e6 hP hS => ?_)
      have hE := hE.trans (bd_e e6)
      have hB : KB σ6 := by rw [e6]; exact hB
      have hl := lv_sub hl [1, 3, 0] rfl
      exact b31 _ _ _ _ a2 (a1 &&& 255) (vin_m 8 (by decide) (by decide) (by decide)) hE hl hP hB hS
set_option maxRecDepth 100000 in
set_option maxHeartbeats 4000000 in
theorem c_k_push (l : Launch) (D : va_G) (q : Nat → Nat) (cA : ClassId) (tN : Nat) (σ0 : St) (a1 : Int32) : Met l yK_push wsK_push { frames := 1, cells := 0, slots := 0, locals := 23 } (va_Pc [.ref (q 0), .int a1] (KPre D q cA tN σ0)) (va_Qv (fun u => u = k_push σ0 a1) (KPost D q cA) (KA q)) 0 0 (KA q) := by
  refine Met.ofW (cc := cK_push) (maxL := 3) (ret := none) (by decide) rfl ?_
  intro p e s m args below meth c s₁ B hml hv
  obtain ⟨rfl, hP, hB, hC⟩ := hv
  have hx := B.exec
  have hb := B.bytes
  have hr := B.returns
  have hts : ∀ w ∈ gw, w.before ([.ref (q 0), .int a1] : List Value).toArray s = true := fun w h => atoms_spec (ws := wsK_push) B.pre w (List.mem_cons_of_mem _ h)
  have hown : s.vm.findClass RK = some m.cls := findClass_of_methodNamed B.named
  have hlocks := B.notSynchronized
  have hS : va_S (KA q) s.heap s.heap [] := va_S.rf
  have hl := lv_entry ([.ref (q 0), .int a1]) (n := 3) (Nat.le_of_ble_eq_true rfl)
  rw [lg_entry_eq]
  generalize (lg_sl ([.ref (q 0), .int a1]) ++ List.replicate (3 - (lg_sl ([.ref (q 0), .int a1])).length) Slot.unset).toArray = ls at hl ⊢
  have hl : lv_has ls 3 [(0, .ref (q 0)), (1, .int a1)] := hl
  have hE : k_push σ0 a1 = k_push σ0 a1 := rfl
  refine lv_aload_n hx hb dK_push_0 rfl (lv_at hl 0 rfl) ?_
  refine kget_0_5 hx hb hts inK hown hC hP (hts _ wK_f28) dK_push_1 ?_
  refine kcalli (rest := []) ⟨hx, hb, hml, hown, hts⟩ hC hP hB hS (c_k_stack l D q cA tN σ0) (cwV 0 hts gK_176 rfl rfl rfl hdQ_stack ⟨Nat.le_of_ble_eq_true rfl, Nat.le_of_ble_eq_true rfl⟩) (krv_6 hC hP) rfl hl.1 rfl (Nat.le_of_ble_eq_true rfl) dK_push_4 (fun σ1 v2 H locs e1 hP hB hS => ?_)
  have hE := hE.trans (bd2_e e1)
  refine lv_iconst (v := 1) hx hb dK_push_7 (by decide) ?_
  refine lv_isub hx hb dK_push_8 ?_
  refine lv_ldc (v := 65535) hx hb hown (hts _ wK_c39) dK_push_9 ?_
  refine lv_iand hx hb dK_push_11 ?_
  refine lv_istore_n (lv' := [(2, .int ((v2 - 1) &&& 65535)), (0, .ref (q 0)), (1, .int a1)]) hx hb dK_push_12 rfl hl (by decide) rfl (fun ls hl => ?_)
  refine lv_aload_n hx hb dK_push_13 rfl (lv_at hl 1 rfl) ?_
  refine kget_0_5 hx hb hts inK hown hC hP (hts _ wK_f28) dK_push_14 ?_
  refine lv_iload_n hx hb dK_push_17 rfl (lv_at hl 0 rfl) ?_
  refine kcallv (rest := []) ⟨hx, hb, hml, hown, hts⟩ hC hP hB hS (c_k_setStack l D q cA tN σ1 ((v2 - 1) &&& 65535)) (cwV 1 hts gK_179 rfl rfl rfl hdQ_setStack ⟨Nat.le_of_ble_eq_true rfl, Nat.le_of_ble_eq_true rfl⟩) (krv_6 hC hP) rfl hl.1 rfl (Nat.le_of_ble_eq_true rfl) dK_push_18 (fun σ3 H locs e3 hP hB hS => ?_)
  have hE := hE.trans (bd_e e3)
  refine lv_aload_n hx hb dK_push_21 rfl (lv_at hl 1 rfl) ?_
  refine lv_iload_n hx hb dK_push_22 rfl (lv_at hl 0 rfl) ?_
  refine lv_iload_n hx hb dK_push_23 rfl (lv_at hl 2 rfl) ?_
  refine kcallv (rest := []) ⟨hx, hb, hml, hown, hts⟩ hC hP hB hS (c_k_write l D q cA tN σ3 ((v2 - 1) &&& 65535) a1) (cwV 2 hts gK_134 rfl rfl rfl hdK_write ⟨Nat.le_of_ble_eq_true rfl, Nat.le_of_ble_eq_true rfl⟩) (krv_0 hC hP) rfl hl.1 rfl (Nat.le_of_ble_eq_true rfl) dK_push_24 (fun σ4 H locs e4 hP hB hS => ?_)
  have hE := hE.trans (bd_e e4)
  exact W.vret hx hb hr (fun t ht hW => ⟨⟨σ4, rfl, hE.symm, ⟨by rw [ht]; exact hP, hB⟩⟩, hS.F ht⟩) hS.2.2 dK_push_27
set_option maxRecDepth 100000 in
set_option maxHeartbeats 4000000 in
theorem c_k_pushFrame (l : Launch) (D : va_G) (q : Nat → Nat) (cA : ClassId) (tN : Nat) (σ0 : St) : Met l yK_pushFrame wsK_pushFrame { frames := 2, cells := 0, slots := 0, locals := 45 } (va_Pc [.ref (q 0)] (KPre D q cA tN σ0)) (va_Qv (fun u => u = k_pushFrame σ0) (KPost D q cA) (KA q)) 0 0 (KA q) := by
  refine Met.ofW (cc := cK_pushFrame) (maxL := 2) (ret := none) (by decide) rfl ?_
  intro p e s m args below meth c s₁ B hml hv
  obtain ⟨rfl, hP, hB, hC⟩ := hv
  have hx := B.exec
  have hb := B.bytes
  have hr := B.returns
  have hts : ∀ w ∈ gw, w.before ([.ref (q 0)] : List Value).toArray s = true := fun w h => atoms_spec (ws := wsK_pushFrame) B.pre w (List.mem_cons_of_mem _ h)
  have hown : s.vm.findClass RK = some m.cls := findClass_of_methodNamed B.named
  have hlocks := B.notSynchronized
  have hS : va_S (KA q) s.heap s.heap [] := va_S.rf
  have hl := lv_entry ([.ref (q 0)]) (n := 2) (Nat.le_of_ble_eq_true rfl)
  rw [lg_entry_eq]
  generalize (lg_sl ([.ref (q 0)]) ++ List.replicate (2 - (lg_sl ([.ref (q 0)])).length) Slot.unset).toArray = ls at hl ⊢
  have hl : lv_has ls 2 [(0, .ref (q 0))] := hl
  have hE : k_pushFrame σ0 = k_pushFrame σ0 := rfl
  have b46_6 : ∀ (H : Heap) (locs : List Loc) (ls : Array Slot) (σ : St), k_pushFrame σ0 = k_pushFrame_46_6 σ → lv_has ls 2 [(0, .ref (q 0)), (1, .int 6)] → va_P D vwCl (wsK q cA σ) H → KB σ → va_S (KA q) s.heap H locs → W p l e (headSpec wsK_pushFrame { frames := 2, cells := 0, slots := 0, locals := 45 }).room s m ([.ref (q 0)] : List Value).toArray below meth c H locs 0 0 (MQ below (va_Qv (fun u => u = k_pushFrame σ0) (KPost D q cA) (KA q)) ([.ref (q 0)] : List Value).toArray s 0 0 (KA q)) (F0 m 46 ls []) := by
    intro H locs ls σ hE hl hP hB hS
    refine lv_iload_n hx hb dK_pushFrame_46 rfl (lv_at hl 1 rfl) ?_
    refine lv_bipush (v := 6) hx hb dK_pushFrame_47 (by decide) ?_
    refine lv_icmp_ge (tgt := 71) hx hb dK_pushFrame_49 rfl (fun _ => ?_) (fun h18 => absurd (by decide) h18)
    refine lv_aload_n hx hb dK_pushFrame_71 rfl (lv_at hl 0 rfl) ?_
    refine lv_sipush (v := 1000) hx hb dK_pushFrame_72 (by decide) ?_
    refine lv_aload_n hx hb dK_pushFrame_75 rfl (lv_at hl 0 rfl) ?_
    refine kget_0_5 hx hb hts inK hown hC hP (hts _ wK_f28) dK_pushFrame_76 ?_
    refine kget_6_6 hx hb hts inQ hown hC hP (hts _ wK_f73) dK_pushFrame_79 ?_
    refine lv_iadd hx hb dK_pushFrame_82 ?_
    refine kcallv (rest := []) ⟨hx, hb, hml, hown, hts⟩ hC hP hB hS (c_k_push l D q cA tN σ (1000 + (σ 6 6))) (cwV 1 hts gK_138 rfl rfl rfl hdK_push ⟨Nat.le_of_ble_eq_true rfl, Nat.le_of_ble_eq_true rfl⟩) (krv_0 hC hP) rfl hl.1 rfl (Nat.le_of_ble_eq_true rfl) dK_pushFrame_83 (fun σ19 H locs e19 hP hB hS => ?_)
    have hE := hE.trans (bd_e e19)
    exact W.vret hx hb hr (fun t ht hW => ⟨⟨σ19, rfl, hE.symm, ⟨by rw [ht]; exact hP, hB⟩⟩, hS.F ht⟩) hS.2.2 dK_pushFrame_86
  have b46_5 : ∀ (H : Heap) (locs : List Loc) (ls : Array Slot) (σ : St), k_pushFrame σ0 = k_pushFrame_46_5 σ → lv_has ls 2 [(0, .ref (q 0)), (1, .int 5)] → va_P D vwCl (wsK q cA σ) H → KB σ → va_S (KA q) s.heap H locs → W p l e (headSpec wsK_pushFrame { frames := 2, cells := 0, slots := 0, locals := 45 }).room s m ([.ref (q 0)] : List Value).toArray below meth c H locs 0 0 (MQ below (va_Qv (fun u => u = k_pushFrame σ0) (KPost D q cA) (KA q)) ([.ref (q 0)] : List Value).toArray s 0 0 (KA q)) (F0 m 46 ls []) := by
    intro H locs ls σ hE hl hP hB hS
    refine lv_iload_n hx hb dK_pushFrame_46 rfl (lv_at hl 1 rfl) ?_
    refine lv_bipush (v := 6) hx hb dK_pushFrame_47 (by decide) ?_
    refine lv_icmp_ge (tgt := 71) hx hb dK_pushFrame_49 rfl (fun h16 => absurd h16 (by decide)) (fun _ => ?_)
    refine lv_aload_n hx hb dK_pushFrame_52 rfl (lv_at hl 0 rfl) ?_
    refine lv_aload_n hx hb dK_pushFrame_53 rfl (lv_at hl 0 rfl) ?_
    refine kget_0_5 hx hb hts inK hown hC hP (hts _ wK_f28) dK_pushFrame_54 ?_
    refine kget_6_0 hx hb hts inQ hown hC hP (hts _ wK_f82) dK_pushFrame_57 ?_
    refine lv_iload_n hx hb dK_pushFrame_60 rfl (lv_at hl 1 rfl) ?_
    refine kald_8 hx hb hC hP (vin_c (by decide)) dK_pushFrame_61 ?_
    refine kcallv (rest := []) ⟨hx, hb, hml, hown, hts⟩ hC hP hB hS (c_k_push l D q cA tN σ (σ 8 (ix 5))) (cwV 1 hts gK_138 rfl rfl rfl hdK_push ⟨Nat.le_of_ble_eq_true rfl, Nat.le_of_ble_eq_true rfl⟩) (krv_0 hC hP) rfl hl.1 rfl (Nat.le_of_ble_eq_true rfl) dK_pushFrame_62 (fun σ17 H locs e17 hP hB hS => ?_)
    have hE := hE.trans (bd_e e17)
    refine lv_iinc (k := 1) (v := 6) (lv' := [(1, .int 6), (0, .ref (q 0))]) hx hb dK_pushFrame_65 hl rfl (by decide) (by decide) rfl (fun ls hl => ?_)
    refine lv_goto (tgt := 46) hx hb dK_pushFrame_68 rfl ?_
    have hl := lv_sub hl [1, 0] rfl
    exact b46_6 _ _ _ _ hE hl hP hB hS
  have b46_4 : ∀ (H : Heap) (locs : List Loc) (ls : Array Slot) (σ : St), k_pushFrame σ0 = k_pushFrame_46_4 σ → lv_has ls 2 [(0, .ref (q 0)), (1, .int 4)] → va_P D vwCl (wsK q cA σ) H → KB σ → va_S (KA q) s.heap H locs → W p l e (headSpec wsK_pushFrame { frames := 2, cells := 0, slots := 0, locals := 45 }).room s m ([.ref (q 0)] : List Value).toArray below meth c H locs 0 0 (MQ below (va_Qv (fun u => u = k_pushFrame σ0) (KPost D q cA) (KA q)) ([.ref (q 0)] : List Value).toArray s 0 0 (KA q)) (F0 m 46 ls []) := by
    intro H locs ls σ hE hl hP hB hS
    refine lv_iload_n hx hb dK_pushFrame_46 rfl (lv_at hl 1 rfl) ?_
    refine lv_bipush (v := 6) hx hb dK_pushFrame_47 (by decide) ?_
    refine lv_icmp_ge (tgt := 71) hx hb dK_pushFrame_49 rfl (fun h14 => absurd h14 (by decide)) (fun _ => ?_)
    refine lv_aload_n hx hb dK_pushFrame_52 rfl (lv_at hl 0 rfl) ?_
    refine lv_aload_n hx hb dK_pushFrame_53 rfl (lv_at hl 0 rfl) ?_
    refine kget_0_5 hx hb hts inK hown hC hP (hts _ wK_f28) dK_pushFrame_54 ?_
    refine kget_6_0 hx hb hts inQ hown hC hP (hts _ wK_f82) dK_pushFrame_57 ?_
    refine lv_iload_n hx hb dK_pushFrame_60 rfl (lv_at hl 1 rfl) ?_
    refine kald_8 hx hb hC hP (vin_c (by decide)) dK_pushFrame_61 ?_
    refine kcallv (rest := []) ⟨hx, hb, hml, hown, hts⟩ hC hP hB hS (c_k_push l D q cA tN σ (σ 8 (ix 4))) (cwV 1 hts gK_138 rfl rfl rfl hdK_push ⟨Nat.le_of_ble_eq_true rfl, Nat.le_of_ble_eq_true rfl⟩) (krv_0 hC hP) rfl hl.1 rfl (Nat.le_of_ble_eq_true rfl) dK_pushFrame_62 (fun σ15 H locs e15 hP hB hS => ?_)
    have hE := hE.trans (bd_e e15)
    refine lv_iinc (k := 1) (v := 5) (lv' := [(1, .int 5), (0, .ref (q 0))]) hx hb dK_pushFrame_65 hl rfl (by decide) (by decide) rfl (fun ls hl => ?_)
    refine lv_goto (tgt := 46) hx hb dK_pushFrame_68 rfl ?_
    have hl := lv_sub hl [1, 0] rfl
    exact b46_5 _ _ _ _ hE hl hP hB hS
  have b46_3 : ∀ (H : Heap) (locs : List Loc) (ls : Array Slot) (σ : St), k_pushFrame σ0 = k_pushFrame_46_3 σ → lv_has ls 2 [(0, .ref (q 0)), (1, .int 3)] → va_P D vwCl (wsK q cA σ) H → KB σ → va_S (KA q) s.heap H locs → W p l e (headSpec wsK_pushFrame { frames := 2, cells := 0, slots := 0, locals := 45 }).room s m ([.ref (q 0)] : List Value).toArray below meth c H locs 0 0 (MQ below (va_Qv (fun u => u = k_pushFrame σ0) (KPost D q cA) (KA q)) ([.ref (q 0)] : List Value).toArray s 0 0 (KA q)) (F0 m 46 ls []) := by
    intro H locs ls σ hE hl hP hB hS
    refine lv_iload_n hx hb dK_pushFrame_46 rfl (lv_at hl 1 rfl) ?_
    refine lv_bipush (v := 6) hx hb dK_pushFrame_47 (by decide) ?_
    refine lv_icmp_ge (tgt := 71) hx hb dK_pushFrame_49 rfl (fun h12 => absurd h12 (by decide)) (fun _ => ?_)
    refine lv_aload_n hx hb dK_pushFrame_52 rfl (lv_at hl 0 rfl) ?_
    refine lv_aload_n hx hb dK_pushFrame_53 rfl (lv_at hl 0 rfl) ?_
    refine kget_0_5 hx hb hts inK hown hC hP (hts _ wK_f28) dK_pushFrame_54 ?_
    refine kget_6_0 hx hb hts inQ hown hC hP (hts _ wK_f82) dK_pushFrame_57 ?_
    refine lv_iload_n hx hb dK_pushFrame_60 rfl (lv_at hl 1 rfl) ?_
    refine kald_8 hx hb hC hP (vin_c (by decide)) dK_pushFrame_61 ?_
    refine kcallv (rest := []) ⟨hx, hb, hml, hown, hts⟩ hC hP hB hS (c_k_push l D q cA tN σ (σ 8 (ix 3))) (cwV 1 hts gK_138 rfl rfl rfl hdK_push ⟨Nat.le_of_ble_eq_true rfl, Nat.le_of_ble_eq_true rfl⟩) (krv_0 hC hP) rfl hl.1 rfl (Nat.le_of_ble_eq_true rfl) dK_pushFrame_62 (fun σ13 H locs e13 hP hB hS => ?_)
    have hE := hE.trans (bd_e e13)
    refine lv_iinc (k := 1) (v := 4) (lv' := [(1, .int 4), (0, .ref (q 0))]) hx hb dK_pushFrame_65 hl rfl (by decide) (by decide) rfl (fun ls hl => ?_)
    refine lv_goto (tgt := 46) hx hb dK_pushFrame_68 rfl ?_
    have hl := lv_sub hl [1, 0] rfl
    exact b46_4 _ _ _ _ hE hl hP hB hS
  have b46_2 : ∀ (H : Heap) (locs : List Loc) (ls : Array Slot) (σ : St), k_pushFrame σ0 = k_pushFrame_46_2 σ → lv_has ls 2 [(0, .ref (q 0)), (1, .int 2)] → va_P D vwCl (wsK q cA σ) H → KB σ → va_S (KA q) s.heap H locs → W p l e (headSpec wsK_pushFrame { frames := 2, cells := 0, slots := 0, locals := 45 }).room s m ([.ref (q 0)] : List Value).toArray below meth c H locs 0 0 (MQ below (va_Qv (fun u => u = k_pushFrame σ0) (KPost D q cA) (KA q)) ([.ref (q 0)] : List Value).toArray s 0 0 (KA q)) (F0 m 46 ls []) := by
    intro H locs ls σ hE hl hP hB hS
    refine lv_iload_n hx hb dK_pushFrame_46 rfl (lv_at hl 1 rfl) ?_
    refine lv_bipush (v := 6) hx hb dK_pushFrame_47 (by decide) ?_
    refine lv_icmp_ge (tgt := 71) hx hb dK_pushFrame_49 rfl (fun h10 => absurd h10 (by decide)) (fun _ => ?_)
    refine lv_aload_n hx hb dK_pushFrame_52 rfl (lv_at hl 0 rfl) ?_
    refine lv_aload_n hx hb dK_pushFrame_53 rfl (lv_at hl 0 rfl) ?_
    refine kget_0_5 hx hb hts inK hown hC hP (hts _ wK_f28) dK_pushFrame_54 ?_
    refine kget_6_0 hx hb hts inQ hown hC hP (hts _ wK_f82) dK_pushFrame_57 ?_
    refine lv_iload_n hx hb dK_pushFrame_60 rfl (lv_at hl 1 rfl) ?_
    refine kald_8 hx hb hC hP (vin_c (by decide)) dK_pushFrame_61 ?_
    refine kcallv (rest := []) ⟨hx, hb, hml, hown, hts⟩ hC hP hB hS (c_k_push l D q cA tN σ (σ 8 (ix 2))) (cwV 1 hts gK_138 rfl rfl rfl hdK_push ⟨Nat.le_of_ble_eq_true rfl, Nat.le_of_ble_eq_true rfl⟩) (krv_0 hC hP) rfl hl.1 rfl (Nat.le_of_ble_eq_true rfl) dK_pushFrame_62 (fun σ11 H locs e11 hP hB hS => ?_)
    have hE := hE.trans (bd_e e11)
    refine lv_iinc (k := 1) (v := 3) (lv' := [(1, .int 3), (0, .ref (q 0))]) hx hb dK_pushFrame_65 hl rfl (by decide) (by decide) rfl (fun ls hl => ?_)
    refine lv_goto (tgt := 46) hx hb dK_pushFrame_68 rfl ?_
    have hl := lv_sub hl [1, 0] rfl
    exact b46_3 _ _ _ _ hE hl hP hB hS
  have b46_1 : ∀ (H : Heap) (locs : List Loc) (ls : Array Slot) (σ : St), k_pushFrame σ0 = k_pushFrame_46_1 σ → lv_has ls 2 [(0, .ref (q 0)), (1, .int 1)] → va_P D vwCl (wsK q cA σ) H → KB σ → va_S (KA q) s.heap H locs → W p l e (headSpec wsK_pushFrame { frames := 2, cells := 0, slots := 0, locals := 45 }).room s m ([.ref (q 0)] : List Value).toArray below meth c H locs 0 0 (MQ below (va_Qv (fun u => u = k_pushFrame σ0) (KPost D q cA) (KA q)) ([.ref (q 0)] : List Value).toArray s 0 0 (KA q)) (F0 m 46 ls []) := by
    intro H locs ls σ hE hl hP hB hS
    refine lv_iload_n hx hb dK_pushFrame_46 rfl (lv_at hl 1 rfl) ?_
    refine lv_bipush (v := 6) hx hb dK_pushFrame_47 (by decide) ?_
    refine lv_icmp_ge (tgt := 71) hx hb dK_pushFrame_49 rfl (fun h8 => absurd h8 (by decide)) (fun _ => ?_)
    refine lv_aload_n hx hb dK_pushFrame_52 rfl (lv_at hl 0 rfl) ?_
    refine lv_aload_n hx hb dK_pushFrame_53 rfl (lv_at hl 0 rfl) ?_
    refine kget_0_5 hx hb hts inK hown hC hP (hts _ wK_f28) dK_pushFrame_54 ?_
    refine kget_6_0 hx hb hts inQ hown hC hP (hts _ wK_f82) dK_pushFrame_57 ?_
    refine lv_iload_n hx hb dK_pushFrame_60 rfl (lv_at hl 1 rfl) ?_
    refine kald_8 hx hb hC hP (vin_c (by decide)) dK_pushFrame_61 ?_
    refine kcallv (rest := []) ⟨hx, hb, hml, hown, hts⟩ hC hP hB hS (c_k_push l D q cA tN σ (σ 8 (ix 1))) (cwV 1 hts gK_138 rfl rfl rfl hdK_push ⟨Nat.le_of_ble_eq_true rfl, Nat.le_of_ble_eq_true rfl⟩) (krv_0 hC hP) rfl hl.1 rfl (Nat.le_of_ble_eq_true rfl) dK_pushFrame_62 (fun σ9 H locs e9 hP hB hS => ?_)
    have hE := hE.trans (bd_e e9)
    refine lv_iinc (k := 1) (v := 2) (lv' := [(1, .int 2), (0, .ref (q 0))]) hx hb dK_pushFrame_65 hl rfl (by decide) (by decide) rfl (fun ls hl => ?_)
    refine lv_goto (tgt := 46) hx hb dK_pushFrame_68 rfl ?_
    have hl := lv_sub hl [1, 0] rfl
    exact b46_2 _ _ _ _ hE hl hP hB hS
  have b46_0 : ∀ (H : Heap) (locs : List Loc) (ls : Array Slot) (σ : St), k_pushFrame σ0 = k_pushFrame_46_0 σ → lv_has ls 2 [(0, .ref (q 0)), (1, .int 0)] → va_P D vwCl (wsK q cA σ) H → KB σ → va_S (KA q) s.heap H locs → W p l e (headSpec wsK_pushFrame { frames := 2, cells := 0, slots := 0, locals := 45 }).room s m ([.ref (q 0)] : List Value).toArray below meth c H locs 0 0 (MQ below (va_Qv (fun u => u = k_pushFrame σ0) (KPost D q cA) (KA q)) ([.ref (q 0)] : List Value).toArray s 0 0 (KA q)) (F0 m 46 ls []) := by
    intro H locs ls σ hE hl hP hB hS
    refine lv_iload_n hx hb dK_pushFrame_46 rfl (lv_at hl 1 rfl) ?_
    refine lv_bipush (v := 6) hx hb dK_pushFrame_47 (by decide) ?_
    refine lv_icmp_ge (tgt := 71) hx hb dK_pushFrame_49 rfl (fun h6 => absurd h6 (by decide)) (fun _ => ?_)
    refine lv_aload_n hx hb dK_pushFrame_52 rfl (lv_at hl 0 rfl) ?_
    refine lv_aload_n hx hb dK_pushFrame_53 rfl (lv_at hl 0 rfl) ?_
    refine kget_0_5 hx hb hts inK hown hC hP (hts _ wK_f28) dK_pushFrame_54 ?_
    refine kget_6_0 hx hb hts inQ hown hC hP (hts _ wK_f82) dK_pushFrame_57 ?_
    refine lv_iload_n hx hb dK_pushFrame_60 rfl (lv_at hl 1 rfl) ?_
    refine kald_8 hx hb hC hP (vin_c (by decide)) dK_pushFrame_61 ?_
    refine kcallv (rest := []) ⟨hx, hb, hml, hown, hts⟩ hC hP hB hS (c_k_push l D q cA tN σ (σ 8 (ix 0))) (cwV 1 hts gK_138 rfl rfl rfl hdK_push ⟨Nat.le_of_ble_eq_true rfl, Nat.le_of_ble_eq_true rfl⟩) (krv_0 hC hP) rfl hl.1 rfl (Nat.le_of_ble_eq_true rfl) dK_pushFrame_62 (fun σ7 H locs e7 hP hB hS => ?_)
    have hE := hE.trans (bd_e e7)
    refine lv_iinc (k := 1) (v := 1) (lv' := [(1, .int 1), (0, .ref (q 0))]) hx hb dK_pushFrame_65 hl rfl (by decide) (by decide) rfl (fun ls hl => ?_)
    refine lv_goto (tgt := 46) hx hb dK_pushFrame_68 rfl ?_
    have hl := lv_sub hl [1, 0] rfl
    exact b46_1 _ _ _ _ hE hl hP hB hS
  have b27 : ∀ (H : Heap) (locs : List Loc) (ls : Array Slot) (σ : St) (y0 : Int32), k_pushFrame σ0 = k_pushFrame_27 σ y0 → lv_has ls 2 [(0, .ref (q 0))] → va_P D vwCl (wsK q cA σ) H → KB σ → va_S (KA q) s.heap H locs → W p l e (headSpec wsK_pushFrame { frames := 2, cells := 0, slots := 0, locals := 45 }).room s m ([.ref (q 0)] : List Value).toArray below meth c H locs 0 0 (MQ below (va_Qv (fun u => u = k_pushFrame σ0) (KPost D q cA) (KA q)) ([.ref (q 0)] : List Value).toArray s 0 0 (KA q)) (F0 m 27 ls [.int y0, .ref (q 0)]) := by
    intro H locs ls σ y0 hE hl hP hB hS
    refine kcallv (rest := []) ⟨hx, hb, hml, hown, hts⟩ hC hP hB hS (c_k_push l D q cA tN σ y0) (cwV 1 hts gK_138 rfl rfl rfl hdK_push ⟨Nat.le_of_ble_eq_true rfl, Nat.le_of_ble_eq_true rfl⟩) (krv_0 hC hP) rfl hl.1 rfl (Nat.le_of_ble_eq_true rfl) dK_pushFrame_27 (fun σ4 H locs e4 hP hB hS => ?_)
    have hE := hE.trans (bd_e e4)
    refine lv_aload_n hx hb dK_pushFrame_30 rfl (lv_at hl 0 rfl) ?_
    refine lv_aload_n hx hb dK_pushFrame_31 rfl (lv_at hl 0 rfl) ?_
    refine kget_0_5 hx hb hts inK hown hC hP (hts _ wK_f28) dK_pushFrame_32 ?_
    refine kget_6_0 hx hb hts inQ hown hC hP (hts _ wK_f82) dK_pushFrame_35 ?_
    refine lv_bipush (v := 6) hx hb dK_pushFrame_38 (by decide) ?_
    refine kald_8 hx hb hC hP (vin_c (by decide)) dK_pushFrame_40 ?_
    refine kcallv (rest := []) ⟨hx, hb, hml, hown, hts⟩ hC hP hB hS (c_k_push l D q cA tN σ4 (σ4 8 (ix 6))) (cwV 1 hts gK_138 rfl rfl rfl hdK_push ⟨Nat.le_of_ble_eq_true rfl, Nat.le_of_ble_eq_true rfl⟩) (krv_0 hC hP) rfl hl.1 rfl (Nat.le_of_ble_eq_true rfl) dK_pushFrame_41 (fun σ5 H locs e5 hP hB hS => ?_)
    have hE := hE.trans (bd_e e5)
    refine lv_iconst (v := 0) hx hb dK_pushFrame_44 (by decide) ?_
    refine lv_istore_n (lv' := [(1, .int 0), (0, .ref (q 0))]) hx hb dK_pushFrame_45 rfl hl (by decide) rfl (fun ls hl => ?_)
    have hl := lv_sub hl [1, 0] rfl
    exact b46_0 _ _ _ _ hE hl hP hB hS
  refine lv_aload_n hx hb dK_pushFrame_0 rfl (lv_at hl 0 rfl) ?_
  refine lv_aload_n hx hb dK_pushFrame_1 rfl (lv_at hl 0 rfl) ?_
  refine kget_0_5 hx hb hts inK hown hC hP (hts _ wK_f28) dK_pushFrame_2 ?_
  refine kget_6_3 hx hb hts inQ hown hC hP (hts _ wK_f61) dK_pushFrame_5 ?_
  refine kcallv (rest := []) ⟨hx, hb, hml, hown, hts⟩ hC hP hB hS (c_k_push l D q cA tN σ0 (σ0 6 3)) (cwV 1 hts gK_138 rfl rfl rfl hdK_push ⟨Nat.le_of_ble_eq_true rfl, Nat.le_of_ble_eq_true rfl⟩) (krv_0 hC hP) rfl hl.1 rfl (Nat.le_of_ble_eq_true rfl) dK_pushFrame_8 (fun σ1 H locs e1 hP hB hS => ?_)
  have hE := hE.trans (bd_e e1)
  refine lv_aload_n hx hb dK_pushFrame_11 rfl (lv_at hl 0 rfl) ?_
  refine lv_aload_n hx hb dK_pushFrame_12 rfl (lv_at hl 0 rfl) ?_
  refine kget_0_5 hx hb hts inK hown hC hP (hts _ wK_f28) dK_pushFrame_13 ?_
  refine kget_6_4 hx hb hts inQ hown hC hP (hts _ wK_f88) dK_pushFrame_16 ?_
  have z2 : zb (σ1 6 4) := KB_6_4 hB
  refine lv_if_eq (tgt := 26) hx hb dK_pushFrame_19 rfl (fun h3 => ?_) (fun h3 => ?_)
  · have hE := hE.trans (if_pos h3)
    refine lv_iconst (v := 0) hx hb dK_pushFrame_26 (by decide) ?_
    exact b27 _ _ _ _ 0 hE hl hP hB hS
  · have hE := hE.trans (if_neg h3)
    refine lv_iconst (v := 1) hx hb dK_pushFrame_22 (by decide) ?_
    refine lv_goto (tgt := 27) hx hb dK_pushFrame_23 rfl ?_
    exact b27 _ _ _ _ 1 hE hl hP hB hS
set_option maxRecDepth 100000 in
set_option maxHeartbeats 4000000 in
theorem c_k_isHandledOpen (l : Launch) (D : va_G) (q : Nat → Nat) (cA : ClassId) (tN : Nat) (σ0 : St) (a1 : Int32) : Met l yK_isHandledOpen wsK_isHandledOpen { frames := 0, cells := 0, slots := 0, locals := 0 } (va_Pc [.ref (q 0), .int a1] (KPre D q cA tN σ0)) (va_Qi (fun r u => (u, r) = k_isHandledOpen σ0 a1 ∧ zb r) (KPost D q cA) (KA q)) 0 0 (KA q) := by
  refine Met.ofW (cc := cK_isHandledOpen) (maxL := 2) (ret := (some .boolean)) (by decide) rfl ?_
  intro p e s m args below meth c s₁ B hml hv
  obtain ⟨rfl, hP, hB, hC⟩ := hv
  have hx := B.exec
  have hb := B.bytes
  have hr := B.returns
  have hts : ∀ w ∈ gw, w.before ([.ref (q 0), .int a1] : List Value).toArray s = true := fun w h => atoms_spec (ws := wsK_isHandledOpen) B.pre w (List.mem_cons_of_mem _ h)
  have hown : s.vm.findClass RK = some m.cls := findClass_of_methodNamed B.named
  have hlocks := B.notSynchronized
  have hS : va_S (KA q) s.heap s.heap [] := va_S.rf
  have hl := lv_entry ([.ref (q 0), .int a1]) (n := 2) (Nat.le_of_ble_eq_true rfl)
  rw [lg_entry_eq]
  generalize (lg_sl ([.ref (q 0), .int a1]) ++ List.replicate (2 - (lg_sl ([.ref (q 0), .int a1])).length) Slot.unset).toArray = ls at hl ⊢
  have hl : lv_has ls 2 [(0, .ref (q 0)), (1, .int a1)] := hl
  have hE : k_isHandledOpen σ0 a1 = k_isHandledOpen σ0 a1 := rfl
  have b23 : ∀ (H : Heap) (locs : List Loc) (ls : Array Slot) (σ : St) (y0 : Int32), zb y0 → k_isHandledOpen σ0 a1 = k_isHandledOpen_23 σ y0 → lv_has ls 2 [] → va_P D vwCl (wsK q cA σ) H → KB σ → va_S (KA q) s.heap H locs → W p l e (headSpec wsK_isHandledOpen { frames := 0, cells := 0, slots := 0, locals := 0 }).room s m ([.ref (q 0), .int a1] : List Value).toArray below meth c H locs 0 0 (MQ below (va_Qi (fun r u => (u, r) = k_isHandledOpen σ0 a1 ∧ zb r) (KPost D q cA) (KA q)) ([.ref (q 0), .int a1] : List Value).toArray s 0 0 (KA q)) (F0 m 23 ls [.int y0]) := by
    intro H locs ls σ y0 hz_y0 hE hl hP hB hS
    exact W.zret (v := y0) hx hb hr (zb_n hz_y0).1 (fun t ht hW => ⟨⟨y0, σ, rfl, ⟨hE.symm, hz_y0⟩, ⟨by rw [ht]; exact hP, hB⟩⟩, hS.F ht⟩) hS.2.2 dK_isHandledOpen_23
  have b22 : ∀ (H : Heap) (locs : List Loc) (ls : Array Slot) (σ : St), k_isHandledOpen σ0 a1 = k_isHandledOpen_22 σ → lv_has ls 2 [] → va_P D vwCl (wsK q cA σ) H → KB σ → va_S (KA q) s.heap H locs → W p l e (headSpec wsK_isHandledOpen { frames := 0, cells := 0, slots := 0, locals := 0 }).room s m ([.ref (q 0), .int a1] : List Value).toArray below meth c H locs 0 0 (MQ below (va_Qi (fun r u => (u, r) = k_isHandledOpen σ0 a1 ∧ zb r) (KPost D q cA) (KA q)) ([.ref (q 0), .int a1] : List Value).toArray s 0 0 (KA q)) (F0 m 22 ls []) := by
    intro H locs ls σ hE hl hP hB hS
    refine lv_iconst (v := 0) hx hb dK_isHandledOpen_22 (by decide) ?_
    exact b23 _ _ _ _ 0 (by decide) hE hl hP hB hS
  refine lv_iload_n hx hb dK_isHandledOpen_0 rfl (lv_at hl 1 rfl) ?_
  refine lv_iconst (v := 3) hx hb dK_isHandledOpen_1 (by decide) ?_
  refine lv_icmp_lt (tgt := 22) hx hb dK_isHandledOpen_2 rfl (fun h1 => ?_) (fun h1 => ?_)
  · have hE := hE.trans (if_pos h1)
    have hl := lv_sub hl [] rfl
    exact b22 _ _ _ _ hE hl hP hB hS
  · have hE := hE.trans (if_neg h1)
    refine lv_aload_n hx hb dK_isHandledOpen_5 rfl (lv_at hl 0 rfl) ?_
    refine kget_0_8 hx hb hts inK hown hC hP (hts _ wK_f51) dK_isHandledOpen_6 ?_
    refine lv_iload_n hx hb dK_isHandledOpen_9 rfl (lv_at hl 1 rfl) ?_
    refine lv_iconst (v := 3) hx hb dK_isHandledOpen_10 (by decide) ?_
    refine lv_isub hx hb dK_isHandledOpen_11 ?_
    refine lv_ishr hx hb dK_isHandledOpen_12 ?_
    refine lv_iconst (v := 1) hx hb dK_isHandledOpen_13 (by decide) ?_
    refine lv_iand hx hb dK_isHandledOpen_14 ?_
    refine lv_if_ne (tgt := 22) hx hb dK_isHandledOpen_15 rfl (fun h2 => ?_) (fun h2 => ?_)
    · have hE := hE.trans (if_neg h2)
      have hl := lv_sub hl [] rfl
      exact b22 _ _ _ _ hE hl hP hB hS
    · have hE := hE.trans (if_pos h2)
      refine lv_iconst (v := 1) hx hb dK_isHandledOpen_18 (by decide) ?_
      refine lv_goto (tgt := 23) hx hb dK_isHandledOpen_19 rfl ?_
      have hl := lv_sub hl [] rfl
      exact b23 _ _ _ _ 1 (by decide) hE hl hP hB hS
set_option maxRecDepth 100000 in
set_option maxHeartbeats 4000000 in
theorem c_k_goTo (l : Launch) (D : va_G) (q : Nat → Nat) (cA : ClassId) (tN : Nat) (σ0 : St) (a1 : Int32) : Met l yK_goTo wsK_goTo { frames := 0, cells := 0, slots := 0, locals := 0 } (va_Pc [.ref (q 0), .int a1] (KPre D q cA tN σ0)) (va_Qv (fun u => u = k_goTo σ0 a1) (KPost D q cA) (KA q)) 0 0 (KA q) := by
  refine Met.ofW (cc := cK_goTo) (maxL := 2) (ret := none) (by decide) rfl ?_
  intro p e s m args below meth c s₁ B hml hv
  obtain ⟨rfl, hP, hB, hC⟩ := hv
  have hx := B.exec
  have hb := B.bytes
  have hr := B.returns
  have hts : ∀ w ∈ gw, w.before ([.ref (q 0), .int a1] : List Value).toArray s = true := fun w h => atoms_spec (ws := wsK_goTo) B.pre w (List.mem_cons_of_mem _ h)
  have hown : s.vm.findClass RK = some m.cls := findClass_of_methodNamed B.named
  have hlocks := B.notSynchronized
  have hS : va_S (KA q) s.heap s.heap [] := va_S.rf
  have hl := lv_entry ([.ref (q 0), .int a1]) (n := 2) (Nat.le_of_ble_eq_true rfl)
  rw [lg_entry_eq]
  generalize (lg_sl ([.ref (q 0), .int a1]) ++ List.replicate (2 - (lg_sl ([.ref (q 0), .int a1])).length) Slot.unset).toArray = ls at hl ⊢
  have hl : lv_has ls 2 [(0, .ref (q 0)), (1, .int a1)] := hl
  have hE : k_goTo σ0 a1 = k_goTo σ0 a1 := rfl
  refine lv_aload_n hx hb dK_goTo_0 rfl (lv_at hl 0 rfl) ?_
  refine kget_0_5 hx hb hts inK hown hC hP (hts _ wK_f28) dK_goTo_1 ?_
  refine lv_iload_n hx hb dK_goTo_4 rfl (lv_at hl 1 rfl) ?_
  refine lv_sipush (v := 255) hx hb dK_goTo_5 (by decide) ?_
  refine lv_iand hx hb dK_goTo_8 ?_
  refine kput_6_3 hx hb hts inQ hown hC hP (hts _ wK_f61) hS dK_goTo_9 (fun σ1 H locs e1 hP hS => ?_)
  have hE := hE.trans (bd_e e1)
  have hB : KB σ1 := by rw [e1]; exact hB
  exact W.vret hx hb hr (fun t ht hW => ⟨⟨σ1, rfl, hE.symm, ⟨by rw [ht]; exact hP, hB⟩⟩, hS.F ht⟩) hS.2.2 dK_goTo_12
set_option maxRecDepth 100000 in
set_option maxHeartbeats 4000000 in
theorem c_k_clearForOpen (l : Launch) (D : va_G) (q : Nat → Nat) (cA : ClassId) (tN : Nat) (σ0 : St) : Met l yQ_clearForOpen wsQ_clearForOpen { frames := 0, cells := 0, slots := 0, locals := 0 } (va_Pc [.ref (q 6)] (KPre D q cA tN σ0)) (va_Qv (fun u => u = k_clearForOpen σ0) (KPost D q cA) (KA q)) 0 0 (KA q) := by
  refine Met.ofW (cc := cQ_clearForOpen) (maxL := 2) (ret := none) (by decide) rfl ?_
  intro p e s m args below meth c s₁ B hml hv
  obtain ⟨rfl, hP, hB, hC⟩ := hv
  have hx := B.exec
  have hb := B.bytes
  have hr := B.returns
  have hts : ∀ w ∈ gw, w.before ([.ref (q 6)] : List Value).toArray s = true := fun w h => atoms_spec (ws := wsQ_clearForOpen) B.pre w (List.mem_cons_of_mem _ h)
  have hown : s.vm.findClass RQ = some m.cls := findClass_of_methodNamed B.named
  have hlocks := B.notSynchronized
  have hS : va_S (KA q) s.heap s.heap [] := va_S.rf
  have hl := lv_entry ([.ref (q 6)]) (n := 2) (Nat.le_of_ble_eq_true rfl)
  rw [lg_entry_eq]
  generalize (lg_sl ([.ref (q 6)]) ++ List.replicate (2 - (lg_sl ([.ref (q 6)])).length) Slot.unset).toArray = ls at hl ⊢
  have hl : lv_has ls 2 [(0, .ref (q 6))] := hl
  have hE : k_clearForOpen σ0 = k_clearForOpen σ0 := rfl
  have b2_6 : ∀ (H : Heap) (locs : List Loc) (ls : Array Slot) (σ : St), k_clearForOpen σ0 = k_clearForOpen_2_6 σ → lv_has ls 2 [(0, .ref (q 6)), (1, .int 6)] → va_P D vwCl (wsK q cA σ) H → KB σ → va_S (KA q) s.heap H locs → W p l e (headSpec wsQ_clearForOpen { frames := 0, cells := 0, slots := 0, locals := 0 }).room s m ([.ref (q 6)] : List Value).toArray below meth c H locs 0 0 (MQ below (va_Qv (fun u => u = k_clearForOpen σ0) (KPost D q cA) (KA q)) ([.ref (q 6)] : List Value).toArray s 0 0 (KA q)) (F0 m 2 ls []) := by
    intro H locs ls σ hE hl hP hB hS
    refine lv_iload_n hx hb dQ_clearForOpen_2 rfl (lv_at hl 1 rfl) ?_
    refine lv_bipush (v := 6) hx hb dQ_clearForOpen_3 (by decide) ?_
    refine lv_icmp_ge (tgt := 21) hx hb dQ_clearForOpen_5 rfl (fun _ => ?_) (fun h13 => absurd (by decide) h13)
    refine lv_aload_n hx hb dQ_clearForOpen_21 rfl (lv_at hl 0 rfl) ?_
    refine lv_iconst (v := 0) hx hb dQ_clearForOpen_22 (by decide) ?_
    refine kput_6_4 hx hb hts inQ hown hC hP (hts _ wQ_f31) hS (by decide) dQ_clearForOpen_23 (fun σ14 H locs e14 hP hS => ?_)
    have hE := hE.trans (bd_e e14)
    have hB : KB σ14 := by rw [e14]; exact KB_6_4s hB (by decide)
    exact W.vret hx hb hr (fun t ht hW => ⟨⟨σ14, rfl, hE.symm, ⟨by rw [ht]; exact hP, hB⟩⟩, hS.F ht⟩) hS.2.2 dQ_clearForOpen_26
  have b2_5 : ∀ (H : Heap) (locs : List Loc) (ls : Array Slot) (σ : St), k_clearForOpen σ0 = k_clearForOpen_2_5 σ → lv_has ls 2 [(0, .ref (q 6)), (1, .int 5)] → va_P D vwCl (wsK q cA σ) H → KB σ → va_S (KA q) s.heap H locs → W p l e (headSpec wsQ_clearForOpen { frames := 0, cells := 0, slots := 0, locals := 0 }).room s m ([.ref (q 6)] : List Value).toArray below meth c H locs 0 0 (MQ below (va_Qv (fun u => u = k_clearForOpen σ0) (KPost D q cA) (KA q)) ([.ref (q 6)] : List Value).toArray s 0 0 (KA q)) (F0 m 2 ls []) := by
    intro H locs ls σ hE hl hP hB hS
    refine lv_iload_n hx hb dQ_clearForOpen_2 rfl (lv_at hl 1 rfl) ?_
    refine lv_bipush (v := 6) hx hb dQ_clearForOpen_3 (by decide) ?_
    refine lv_icmp_ge (tgt := 21) hx hb dQ_clearForOpen_5 rfl (fun h11 => absurd h11 (by decide)) (fun _ => ?_)
    refine lv_aload_n hx hb dQ_clearForOpen_8 rfl (lv_at hl 0 rfl) ?_
    refine kget_6_0 hx hb hts inQ hown hC hP (hts _ wQ_f9) dQ_clearForOpen_9 ?_
    refine lv_iload_n hx hb dQ_clearForOpen_12 rfl (lv_at hl 1 rfl) ?_
    refine lv_iconst (v := 0) hx hb dQ_clearForOpen_13 (by decide) ?_
    refine kast_8 hx hb hC hP hS (vin_c (by decide)) dQ_clearForOpen_14 (fun σ12 H locs e12 hP hS => ?_)
    have hE := hE.trans (bd_e e12)
    have hB : KB σ12 := by rw [e12]; exact hB
    refine lv_iinc (k := 1) (v := 6) (lv' := [(1, .int 6), (0, .ref (q 6))]) hx hb dQ_clearForOpen_15 hl rfl (by decide) (by decide) rfl (fun ls hl => ?_)
    refine lv_goto (tgt := 2) hx hb dQ_clearForOpen_18 rfl ?_
    have hl := lv_sub hl [1, 0] rfl
    exact b2_6 _ _ _ _ hE hl hP hB hS
  have b2_4 : ∀ (H : Heap) (locs : List Loc) (ls : Array Slot) (σ : St), k_clearForOpen σ0 = k_clearForOpen_2_4 σ → lv_has ls 2 [(0, .ref (q 6)), (1, .int 4)] → va_P D vwCl (wsK q cA σ) H → KB σ → va_S (KA q) s.heap H locs → W p l e (headSpec wsQ_clearForOpen { frames := 0, cells := 0, slots := 0, locals := 0 }).room s m ([.ref (q 6)] : List Value).toArray below meth c H locs 0 0 (MQ below (va_Qv (fun u => u = k_clearForOpen σ0) (KPost D q cA) (KA q)) ([.ref (q 6)] : List Value).toArray s 0 0 (KA q)) (F0 m 2 ls []) := by
    intro H locs ls σ hE hl hP hB hS
    refine lv_iload_n hx hb dQ_clearForOpen_2 rfl (lv_at hl 1 rfl) ?_
    refine lv_bipush (v := 6) hx hb dQ_clearForOpen_3 (by decide) ?_
    refine lv_icmp_ge (tgt := 21) hx hb dQ_clearForOpen_5 rfl (fun h9 => absurd h9 (by decide)) (fun _ => ?_)
    refine lv_aload_n hx hb dQ_clearForOpen_8 rfl (lv_at hl 0 rfl) ?_
    refine kget_6_0 hx hb hts inQ hown hC hP (hts _ wQ_f9) dQ_clearForOpen_9 ?_
    refine lv_iload_n hx hb dQ_clearForOpen_12 rfl (lv_at hl 1 rfl) ?_
    refine lv_iconst (v := 0) hx hb dQ_clearForOpen_13 (by decide) ?_
    refine kast_8 hx hb hC hP hS (vin_c (by decide)) dQ_clearForOpen_14 (fun σ10 H locs e10 hP hS => ?_)
    have hE := hE.trans (bd_e e10)
    have hB : KB σ10 := by rw [e10]; exact hB
    refine lv_iinc (k := 1) (v := 5) (lv' := [(1, .int 5), (0, .ref (q 6))]) hx hb dQ_clearForOpen_15 hl rfl (by decide) (by decide) rfl (fun ls hl => ?_)
    refine lv_goto (tgt := 2) hx hb dQ_clearForOpen_18 rfl ?_
    have hl := lv_sub hl [1, 0] rfl
    exact b2_5 _ _ _ _ hE hl hP hB hS
  have b2_3 : ∀ (H : Heap) (locs : List Loc) (ls : Array Slot) (σ : St), k_clearForOpen σ0 = k_clearForOpen_2_3 σ → lv_has ls 2 [(0, .ref (q 6)), (1, .int 3)] → va_P D vwCl (wsK q cA σ) H → KB σ → va_S (KA q) s.heap H locs → W p l e (headSpec wsQ_clearForOpen { frames := 0, cells := 0, slots := 0, locals := 0 }).room s m ([.ref (q 6)] : List Value).toArray below meth c H locs 0 0 (MQ below (va_Qv (fun u => u = k_clearForOpen σ0) (KPost D q cA) (KA q)) ([.ref (q 6)] : List Value).toArray s 0 0 (KA q)) (F0 m 2 ls []) := by
    intro H locs ls σ hE hl hP hB hS
    refine lv_iload_n hx hb dQ_clearForOpen_2 rfl (lv_at hl 1 rfl) ?_
    refine lv_bipush (v := 6) hx hb dQ_clearForOpen_3 (by decide) ?_
    refine lv_icmp_ge (tgt := 21) hx hb dQ_clearForOpen_5 rfl (fun h7 => absurd h7 (by decide)) (fun _ => ?_)
    refine lv_aload_n hx hb dQ_clearForOpen_8 rfl (lv_at hl 0 rfl) ?_
    refine kget_6_0 hx hb hts inQ hown hC hP (hts _ wQ_f9) dQ_clearForOpen_9 ?_
    refine lv_iload_n hx hb dQ_clearForOpen_12 rfl (lv_at hl 1 rfl) ?_
    refine lv_iconst (v := 0) hx hb dQ_clearForOpen_13 (by decide) ?_
    refine kast_8 hx hb hC hP hS (vin_c (by decide)) dQ_clearForOpen_14 (fun σ8 H locs e8 hP hS => ?_)
    have hE := hE.trans (bd_e e8)
    have hB : KB σ8 := by rw [e8]; exact hB
    refine lv_iinc (k := 1) (v := 4) (lv' := [(1, .int 4), (0, .ref (q 6))]) hx hb dQ_clearForOpen_15 hl rfl (by decide) (by decide) rfl (fun ls hl => ?_)
    refine lv_goto (tgt := 2) hx hb dQ_clearForOpen_18 rfl ?_
    have hl := lv_sub hl [1, 0] rfl
    exact b2_4 _ _ _ _ hE hl hP hB hS
  have b2_2 : ∀ (H : Heap) (locs : List Loc) (ls : Array Slot) (σ : St), k_clearForOpen σ0 = k_clearForOpen_2_2 σ → lv_has ls 2 [(0, .ref (q 6)), (1, .int 2)] → va_P D vwCl (wsK q cA σ) H → KB σ → va_S (KA q) s.heap H locs → W p l e (headSpec wsQ_clearForOpen { frames := 0, cells := 0, slots := 0, locals := 0 }).room s m ([.ref (q 6)] : List Value).toArray below meth c H locs 0 0 (MQ below (va_Qv (fun u => u = k_clearForOpen σ0) (KPost D q cA) (KA q)) ([.ref (q 6)] : List Value).toArray s 0 0 (KA q)) (F0 m 2 ls []) := by
    intro H locs ls σ hE hl hP hB hS
    refine lv_iload_n hx hb dQ_clearForOpen_2 rfl (lv_at hl 1 rfl) ?_
    refine lv_bipush (v := 6) hx hb dQ_clearForOpen_3 (by decide) ?_
    refine lv_icmp_ge (tgt := 21) hx hb dQ_clearForOpen_5 rfl (fun h5 => absurd h5 (by decide)) (fun _ => ?_)
    refine lv_aload_n hx hb dQ_clearForOpen_8 rfl (lv_at hl 0 rfl) ?_
    refine kget_6_0 hx hb hts inQ hown hC hP (hts _ wQ_f9) dQ_clearForOpen_9 ?_
    refine lv_iload_n hx hb dQ_clearForOpen_12 rfl (lv_at hl 1 rfl) ?_
    refine lv_iconst (v := 0) hx hb dQ_clearForOpen_13 (by decide) ?_
    refine kast_8 hx hb hC hP hS (vin_c (by decide)) dQ_clearForOpen_14 (fun σ6 H locs e6 hP hS => ?_)
    have hE := hE.trans (bd_e e6)
    have hB : KB σ6 := by rw [e6]; exact hB
    refine lv_iinc (k := 1) (v := 3) (lv' := [(1, .int 3), (0, .ref (q 6))]) hx hb dQ_clearForOpen_15 hl rfl (by decide) (by decide) rfl (fun ls hl => ?_)
    refine lv_goto (tgt := 2) hx hb dQ_clearForOpen_18 rfl ?_
    have hl := lv_sub hl [1, 0] rfl
    exact b2_3 _ _ _ _ hE hl hP hB hS
  have b2_1 : ∀ (H : Heap) (locs : List Loc) (ls : Array Slot) (σ : St), k_clearForOpen σ0 = k_clearForOpen_2_1 σ → lv_has ls 2 [(0, .ref (q 6)), (1, .int 1)] → va_P D vwCl (wsK q cA σ) H → KB σ → va_S (KA q) s.heap H locs → W p l e (headSpec wsQ_clearForOpen { frames := 0, cells := 0, slots := 0, locals := 0 }).room s m ([.ref (q 6)] : List Value).toArray below meth c H locs 0 0 (MQ below (va_Qv (fun u => u = k_clearForOpen σ0) (KPost D q cA) (KA q)) ([.ref (q 6)] : List Value).toArray s 0 0 (KA q)) (F0 m 2 ls []) := by
    intro H locs ls σ hE hl hP hB hS
    refine lv_iload_n hx hb dQ_clearForOpen_2 rfl (lv_at hl 1 rfl) ?_
    refine lv_bipush (v := 6) hx hb dQ_clearForOpen_3 (by decide) ?_
    refine lv_icmp_ge (tgt := 21) hx hb dQ_clearForOpen_5 rfl (fun h3 => absurd h3 (by decide)) (fun _ => ?_)
    refine lv_aload_n hx hb dQ_clearForOpen_8 rfl (lv_at hl 0 rfl) ?_
    refine kget_6_0 hx hb hts inQ hown hC hP (hts _ wQ_f9) dQ_clearForOpen_9 ?_
    refine lv_iload_n hx hb dQ_clearForOpen_12 rfl (lv_at hl 1 rfl) ?_
    refine lv_iconst (v := 0) hx hb dQ_clearForOpen_13 (by decide) ?_
    refine kast_8 hx hb hC hP hS (vin_c (by decide)) dQ_clearForOpen_14 (fun σ4 H locs e4 hP hS => ?_)
    have hE := hE.trans (bd_e e4)
    have hB : KB σ4 := by rw [e4]; exact hB
    refine lv_iinc (k := 1) (v := 2) (lv' := [(1, .int 2), (0, .ref (q 6))]) hx hb dQ_clearForOpen_15 hl rfl (by decide) (by decide) rfl (fun ls hl => ?_)
    refine lv_goto (tgt := 2) hx hb dQ_clearForOpen_18 rfl ?_
    have hl := lv_sub hl [1, 0] rfl
    exact b2_2 _ _ _ _ hE hl hP hB hS
  have b2_0 : ∀ (H : Heap) (locs : List Loc) (ls : Array Slot) (σ : St), k_clearForOpen σ0 = k_clearForOpen_2_0 σ → lv_has ls 2 [(0, .ref (q 6)), (1, .int 0)] → va_P D vwCl (wsK q cA σ) H → KB σ → va_S (KA q) s.heap H locs → W p l e (headSpec wsQ_clearForOpen { frames := 0, cells := 0, slots := 0, locals := 0 }).room s m ([.ref (q 6)] : List Value).toArray below meth c H locs 0 0 (MQ below (va_Qv (fun u => u = k_clearForOpen σ0) (KPost D q cA) (KA q)) ([.ref (q 6)] : List Value).toArray s 0 0 (KA q)) (F0 m 2 ls []) := by
    intro H locs ls σ hE hl hP hB hS
    refine lv_iload_n hx hb dQ_clearForOpen_2 rfl (lv_at hl 1 rfl) ?_
    refine lv_bipush (v := 6) hx hb dQ_clearForOpen_3 (by decide) ?_
    refine lv_icmp_ge (tgt := 21) hx hb dQ_clearForOpen_5 rfl (fun h1 => absurd h1 (by decide)) (fun _ => ?_)
    refine lv_aload_n hx hb dQ_clearForOpen_8 rfl (lv_at hl 0 rfl) ?_
    refine kget_6_0 hx hb hts inQ hown hC hP (hts _ wQ_f9) dQ_clearForOpen_9 ?_
    refine lv_iload_n hx hb dQ_clearForOpen_12 rfl (lv_at hl 1 rfl) ?_
    refine lv_iconst (v := 0) hx hb dQ_clearForOpen_13 (by decide) ?_
    refine kast_8 hx hb hC hP hS (vin_c (by decide)) dQ_clearForOpen_14 (fun σ2 H locs e2 hP hS => ?_)
    have hE := hE.trans (bd_e e2)
    have hB : KB σ2 := by rw [e2]; exact hB
    refine lv_iinc (k := 1) (v := 1) (lv' := [(1, .int 1), (0, .ref (q 6))]) hx hb dQ_clearForOpen_15 hl rfl (by decide) (by decide) rfl (fun ls hl => ?_)
    refine lv_goto (tgt := 2) hx hb dQ_clearForOpen_18 rfl ?_
    have hl := lv_sub hl [1, 0] rfl
    exact b2_1 _ _ _ _ hE hl hP hB hS
  refine lv_iconst (v := 0) hx hb dQ_clearForOpen_0 (by decide) ?_
  refine lv_istore_n (lv' := [(1, .int 0), (0, .ref (q 6))]) hx hb dQ_clearForOpen_1 rfl hl (by decide) rfl (fun ls hl => ?_)
  have hl := lv_sub hl [1, 0] rfl
  exact b2_0 _ _ _ _ hE hl hP hB hS
set_option maxRecDepth 100000 in
set_option maxHeartbeats 4000000 in
theorem c_k_enter (l : Launch) (D : va_G) (q : Nat → Nat) (cA : ClassId) (tN : Nat) (σ0 : St) (a1 : Int32) : Met l yK_enter wsK_enter { frames := 1, cells := 0, slots := 0, locals := 21 } (va_Pc [.ref (q 0), .int a1] (KPre D q cA tN σ0)) (va_Qv (fun u => u = k_enter σ0 a1) (KPost D q cA) (KA q)) 0 0 (KA q) := by
  refine Met.ofW (cc := cK_enter) (maxL := 3) (ret := none) (by decide) rfl ?_
  intro p e s m args below meth c s₁ B hml hv
  obtain ⟨rfl, hP, hB, hC⟩ := hv
  have hx := B.exec
  have hb := B.bytes
  have hr := B.returns
  have hts : ∀ w ∈ gw, w.before ([.ref (q 0), .int a1] : List Value).toArray s = true := fun w h => atoms_spec (ws := wsK_enter) B.pre w (List.mem_cons_of_mem _ h)
  have hown : s.vm.findClass RK = some m.cls := findClass_of_methodNamed B.named
  have hlocks := B.notSynchronized
  have hS : va_S (KA q) s.heap s.heap [] := va_S.rf
  have hl := lv_entry ([.ref (q 0), .int a1]) (n := 3) (Nat.le_of_ble_eq_true rfl)
  rw [lg_entry_eq]
  generalize (lg_sl ([.ref (q 0), .int a1]) ++ List.replicate (3 - (lg_sl ([.ref (q 0), .int a1])).length) Slot.unset).toArray = ls at hl ⊢
  have hl : lv_has ls 3 [(0, .ref (q 0)), (1, .int a1)] := hl
  have hE : k_enter σ0 a1 = k_enter σ0 a1 := rfl
  have b104_8 : ∀ (H : Heap) (locs : List Loc) (ls : Array Slot) (σ : St) (x1 : Int32) (y0 : Int32), k_enter σ0 a1 = k_enter_104_8 σ x1 y0 → lv_has ls 3 [(0, .ref (q 0)), (1, .int x1)] → va_P D vwCl (wsK q cA σ) H → KB σ → va_S (KA q) s.heap H locs → W p l e (headSpec wsK_enter { frames := 1, cells := 0, slots := 0, locals := 21 }).room s m ([.ref (q 0), .int a1] : List Value).toArray below meth c H locs 0 0 (MQ below (va_Qv (fun u => u = k_enter σ0 a1) (KPost D q cA) (KA q)) ([.ref (q 0), .int a1] : List Value).toArray s 0 0 (KA q)) (F0 m 104 ls [.int y0, .int 8, .ref (q 1), .ref (q 0)]) := by
    intro H locs ls σ x1 y0 hE hl hP hB hS
    refine lv_imul hx hb dK_enter_104 ?_
    refine lv_iload_n hx hb dK_enter_105 rfl (lv_at hl 1 rfl) ?_
    refine lv_iadd hx hb dK_enter_106 ?_
    refine lv_sipush (v := 255) hx hb dK_enter_107 (by decide) ?_
    refine lv_iand hx hb dK_enter_110 ?_
    refine kald_1 hx hb hC hP (vin_m 8 (by decide) (by decide) (by decide)) dK_enter_111 ?_
    refine kcallv (rest := []) ⟨hx, hb, hml, hown, hts⟩ hC hP hB hS (c_k_goTo l D q cA tN σ (σ 1 (ix (((8 * y0) + x1) &&& 255)))) (cwV 1 hts gK_111 rfl rfl rfl hdK_goTo ⟨Nat.le_of_ble_eq_true rfl, Nat.le_of_ble_eq_true rfl⟩) (krv_0 hC hP) rfl hl.1 rfl (Nat.le_of_ble_eq_true rfl) dK_enter_112 (fun σ11 H locs e11 hP hB hS => ?_)
    have hE := hE.trans (bd_e e11)
    refine lv_aload_n hx hb dK_enter_115 rfl (lv_at hl 0 rfl) ?_
    refine lv_iload_n hx hb dK_enter_116 rfl (lv_at hl 1 rfl) ?_
    refine kput_0_13 hx hb hts inK hown hC hP (hts _ wK_f91) hS dK_enter_117 (fun σ12 H locs e12 hP hS => ?_)
    have hE := hE.trans (bd_e e12)
    have hB : KB σ12 := by rw [e12]; exact hB
    exact W.vret hx hb hr (fun t ht hW => ⟨⟨σ12, rfl, hE.symm, ⟨by rw [ht]; exact hP, hB⟩⟩, hS.F ht⟩) hS.2.2 dK_enter_120
  have b66 : ∀ (H : Heap) (locs : List Loc) (ls : Array Slot) (σ : St) (x1 : Int32) (x2 : Int32), zb x2 → k_enter σ0 a1 = k_enter_66 σ x1 x2 → lv_has ls 3 [(0, .ref (q 0)), (1, .int x1), (2, .int x2)] → va_P D vwCl (wsK q cA σ) H → KB σ → va_S (KA q) s.heap H locs → W p l e (headSpec wsK_enter { frames := 1, cells := 0, slots := 0, locals := 21 }).room s m ([.ref (q 0), .int a1] : List Value).toArray below meth c H locs 0 0 (MQ below (va_Qv (fun u => u = k_enter σ0 a1) (KPost D q cA) (KA q)) ([.ref (q 0), .int a1] : List Value).toArray s 0 0 (KA q)) (F0 m 66 ls []) := by
    intro H locs ls σ x1 x2 hz_x2 hE hl hP hB hS
    refine lv_aload_n hx hb dK_enter_66 rfl (lv_at hl 0 rfl) ?_
    refine kget_0_5 hx hb hts inK hown hC hP (hts _ wK_f28) dK_enter_67 ?_
    refine lv_iload_n hx hb dK_enter_70 rfl (lv_at hl 2 rfl) ?_
    refine kput_6_5 hx hb hts inQ hown hC hP (hts _ wK_f64) hS hz_x2 dK_enter_71 (fun σ8 H locs e8 hP hS => ?_)
    have hE := hE.trans (bd_e e8)
    have hB : KB σ8 := by rw [e8]; exact KB_6_5s hB hz_x2
    refine lv_aload_n hx hb dK_enter_74 rfl (lv_at hl 0 rfl) ?_
    refine kget_0_5 hx hb hts inK hown hC hP (hts _ wK_f28) dK_enter_75 ?_
    refine lv_iload_n hx hb dK_enter_78 rfl (lv_at hl 1 rfl) ?_
    refine kput_6_6 hx hb hts inQ hown hC hP (hts _ wK_f73) hS dK_enter_79 (fun σ9 H locs e9 hP hS => ?_)
    have hE := hE.trans (bd_e e9)
    have hB : KB σ9 := by rw [e9]; exact hB
    refine lv_aload_n hx hb dK_enter_82 rfl (lv_at hl 0 rfl) ?_
    refine lv_aload_n hx hb dK_enter_83 rfl (lv_at hl 0 rfl) ?_
    refine kget_0_0 hx hb hts inK hown hC hP (hts _ wK_f9) dK_enter_84 ?_
    refine lv_bipush (v := 8) hx hb dK_enter_87 (by decide) ?_
    refine lv_iload_n hx hb dK_enter_89 rfl (lv_at hl 2 rfl) ?_
    refine lv_if_eq (tgt := 100) hx hb dK_enter_90 rfl (fun h10 => ?_) (fun h10 => ?_)
    · have hE := hE.trans (if_pos h10)
      refine lv_aload_n hx hb dK_enter_100 rfl (lv_at hl 0 rfl) ?_
      refine kget_0_9 hx hb hts inK hown hC hP (hts _ wK_f55) dK_enter_101 ?_
      have hl := lv_sub hl [0, 1] rfl
      exact b104_8 _ _ _ _ x1 (σ9 0 9) hE hl hP hB hS
    · have hE := hE.trans (if_neg h10)
      refine lv_aload_n hx hb dK_enter_93 rfl (lv_at hl 0 rfl) ?_
      refine kget_0_10 hx hb hts inK hown hC hP (hts _ wK_f58) dK_enter_94 ?_
      refine lv_goto (tgt := 104) hx hb dK_enter_97 rfl ?_
      have hl := lv_sub hl [0, 1] rfl
      exact b104_8 _ _ _ _ x1 (σ9 0 10) hE hl hP hB hS
  have b43_6 : ∀ (H : Heap) (locs : List Loc) (ls : Array Slot) (σ : St) (x1 : Int32) (x2 : Int32) (y0 : Int32) (y1 : Int32), zb x2 → k_enter σ0 a1 = k_enter_43_6 σ x1 x2 y0 y1 → lv_has ls 3 [(0, .ref (q 0)), (1, .int x1), (2, .int x2)] → va_P D vwCl (wsK q cA σ) H → KB σ → va_S (KA q) s.heap H locs → W p l e (headSpec wsK_enter { frames := 1, cells := 0, slots := 0, locals := 21 }).room s m ([.ref (q 0), .int a1] : List Value).toArray below meth c H locs 0 0 (MQ below (va_Qv (fun u => u = k_enter σ0 a1) (KPost D q cA) (KA q)) ([.ref (q 0), .int a1] : List Value).toArray s 0 0 (KA q)) (F0 m 43 ls [.int y0, .int y1, .int 6, .ref (q 8)]) := by
    intro H locs ls σ x1 x2 y0 y1 hz_x2 hE hl hP hB hS
    refine lv_iadd hx hb dK_enter_43 ?_
    refine kast_8 hx hb hC hP hS (vin_c (by decide)) dK_enter_44 (fun σ5 H locs e5 hP hS => ?_)
    have hE := hE.trans (bd_e e5)
    have hB : KB σ5 := by rw [e5]; exact hB
    refine lv_aload_n hx hb dK_enter_45 rfl (lv_at hl 0 rfl) ?_
    refine kget_0_5 hx hb hts inK hown hC hP (hts _ wK_f28) dK_enter_46 ?_
    refine kget_6_5 hx hb hts inQ hown hC hP (hts _ wK_f64) dK_enter_49 ?_
    have z6 : zb (σ5 6 5) := KB_6_5 hB
    refine lv_if_ne (tgt := 66) hx hb dK_enter_52 rfl (fun h7 => ?_) (fun h7 => ?_)
    · have hE := hE.trans (if_neg h7)
      exact b66 _ _ _ _ x1 x2 hz_x2 hE hl hP hB hS
    · have hE := hE.trans (if_pos h7)
      refine lv_iload_n hx hb dK_enter_55 rfl (lv_at hl 2 rfl) ?_
      refine lv_if_eq (tgt := 66) hx hb dK_enter_56 rfl (fun h13 => ?_) (fun h13 => ?_)
      · have hE := hE.trans (if_pos h13)
        exact b66 _ _ _ _ x1 x2 hz_x2 hE hl hP hB hS
      · have hE := hE.trans (if_neg h13)
        refine lv_aload_n hx hb dK_enter_59 rfl (lv_at hl 0 rfl) ?_
        refine kget_0_5 hx hb hts inK hown hC hP (hts _ wK_f28) dK_enter_60 ?_
        refine kcallv (rest := []) ⟨hx, hb, hml, hown, hts⟩ hC hP hB hS (c_k_clearForOpen l D q cA tN σ5) (cwV 0 hts gK_173 rfl rfl rfl hdQ_clearForOpen ⟨Nat.le_of_ble_eq_true rfl, Nat.le_of_ble_eq_true rfl⟩) (krv_6 hC hP) rfl hl.1 rfl (Nat.le_of_ble_eq_true rfl) dK_enter_63 (fun σ14 H locs e14 hP hB hS => ?_)
        have hE := hE.trans (bd_e e14)
        exact b66 _ _ _ _ x1 x2 hz_x2 hE hl hP hB hS
  refine lv_aload_n hx hb dK_enter_0 rfl (lv_at hl 0 rfl) ?_
  refine lv_iload_n hx hb dK_enter_1 rfl (lv_at hl 1 rfl) ?_
  refine kcalli (rest := []) ⟨hx, hb, hml, hown, hts⟩ hC hP hB hS (c_k_isHandledOpen l D q cA tN σ0 a1) (cwV 1 hts gK_170 rfl rfl rfl hdK_isHandledOpen ⟨Nat.le_of_ble_eq_true rfl, Nat.le_of_ble_eq_true rfl⟩) (krv_0 hC hP) rfl hl.1 rfl (Nat.le_of_ble_eq_true rfl) dK_enter_2 (fun σ1 v2 H locs e1 hP hB hS => ?_)
  have z1 : zb v2 := e1.2
  have hE := hE.trans (bd2_e e1.1)
  refine lv_istore_n (lv' := [(2, .int v2), (0, .ref (q 0)), (1, .int a1)]) hx hb dK_enter_5 rfl hl (by decide) rfl (fun ls hl => ?_)
  refine lv_aload_n hx hb dK_enter_6 rfl (lv_at hl 1 rfl) ?_
  refine kget_0_5 hx hb hts inK hown hC hP (hts _ wK_f28) dK_enter_7 ?_
  refine kget_6_0 hx hb hts inQ hown hC hP (hts _ wK_f82) dK_enter_10 ?_
  refine lv_bipush (v := 6) hx hb dK_enter_13 (by decide) ?_
  refine lv_ldc (v := 65408) hx hb hown (hts _ wK_c157) dK_enter_15 ?_
  refine lv_bipush (v := 16) hx hb dK_enter_17 (by decide) ?_
  refine lv_aload_n hx hb dK_enter_19 rfl (lv_at hl 1 rfl) ?_
  refine kget_0_5 hx hb hts inK hown hC hP (hts _ wK_f28) dK_enter_20 ?_
  refine kget_6_6 hx hb hts inQ hown hC hP (hts _ wK_f73) dK_enter_23 ?_
  refine lv_imul hx hb dK_enter_26 ?_
  refine lv_iadd hx hb dK_enter_27 ?_
  refine lv_aload_n hx hb dK_enter_28 rfl (lv_at hl 1 rfl) ?_
  refine kget_0_5 hx hb hts inK hown hC hP (hts _ wK_f28) dK_enter_29 ?_
  refine kget_6_5 hx hb hts inQ hown hC hP (hts _ wK_f64) dK_enter_32 ?_
  have z3 : zb (σ1 6 5) := KB_6_5 hB
  refine lv_if_eq (tgt := 42) hx hb dK_enter_35 rfl (fun h4 => ?_) (fun h4 => ?_)
  · have hE := hE.trans (if_pos h4)
    refine lv_iconst (v := 1) hx hb dK_enter_42 (by decide) ?_
    have hl := lv_sub hl [1, 2, 0] rfl
    exact b43_6 _ _ _ _ a1 v2 1 (65408 + (16 * (σ1 6 6))) z1 hE hl hP hB hS
  · have hE := hE.trans (if_neg h4)
    refine lv_iconst (v := 0) hx hb dK_enter_38 (by decide) ?_
    refine lv_goto (tgt := 43) hx hb dK_enter_39 rfl ?_
    have hl := lv_sub hl [1, 2, 0] rfl
    exact b43_6 _ _ _ _ a1 v2 0 (65408 + (16 * (σ1 6 6))) z1 hE hl hP hB hS
set_option maxRecDepth 100000 in
set_option maxHeartbeats 4000000 in
theorem c_k_copy_67 (l : Launch) (D : va_G) (q : Nat → Nat) (cA : ClassId) (tN : Nat) (σ0 : St) : Met l yQ_copy wsQ_copy { frames := 1, cells := 0, slots := 0, locals := 40 } (va_Pc [.ref (q 6), .ref (q 7)] (KPre D q cA tN σ0)) (va_Qv (fun u => u = k_copy_67 σ0) (KPost D q cA) (KA q)) 0 0 (KA q) := by
  refine Met.ofW (cc := cQ_copy) (maxL := 2) (ret := none) (by decide) rfl ?_
  intro p e s m args below meth c s₁ B hml hv
  obtain ⟨rfl, hP, hB, hC⟩ := hv
  have hx := B.exec
  have hb := B.bytes
  have hr := B.returns
  have hts : ∀ w ∈ gw, w.before ([.ref (q 6), .ref (q 7)] : List Value).toArray s = true := fun w h => atoms_spec (ws := wsQ_copy) B.pre w (List.mem_cons_of_mem _ h)
  have hown : s.vm.findClass RQ = some m.cls := findClass_of_methodNamed B.named
  have hlocks := B.notSynchronized
  have hS : va_S (KA q) s.heap s.heap [] := va_S.rf
  have hl := lv_entry ([.ref (q 6), .ref (q 7)]) (n := 2) (Nat.le_of_ble_eq_true rfl)
  rw [lg_entry_eq]
  generalize (lg_sl ([.ref (q 6), .ref (q 7)]) ++ List.replicate (2 - (lg_sl ([.ref (q 6), .ref (q 7)])).length) Slot.unset).toArray = ls at hl ⊢
  have hl : lv_has ls 2 [(0, .ref (q 6)), (1, .ref (q 7))] := hl
  have hE : k_copy_67 σ0 = k_copy_67 σ0 := rfl
  refine lv_aload_n hx hb dQ_copy_0 rfl (lv_at hl 1 rfl) ?_
  refine kget_7_0 hx hb hts inQ hown hC hP (hts _ wQ_f9) dQ_copy_1 ?_
  refine lv_iconst (v := 0) hx hb dQ_copy_4 (by decide) ?_
  refine lv_aload_n hx hb dQ_copy_5 rfl (lv_at hl 0 rfl) ?_
  refine kget_6_0 hx hb hts inQ hown hC hP (hts _ wQ_f9) dQ_copy_6 ?_
  refine lv_iconst (v := 0) hx hb dQ_copy_9 (by decide) ?_
  refine lv_bipush (v := 8) hx hb dQ_copy_10 (by decide) ?_
  refine kcopy_9_8 hx hb (hml.trans hl.1.symm) hC hP hS hown (hts _ wQ_m22) (hts _ w_cpn) (hts _ w_cps) (hts _ w_cpi) (Nat.le_of_ble_eq_true rfl) (Nat.le_of_ble_eq_true rfl) dQ_copy_12 (fun σ1 H locs e1 hP hS => ?_)
  have hE := hE.trans (bd_e e1)
  have hB : KB σ1 := by rw [e1]; exact hB
  refine lv_aload_n hx hb dQ_copy_15 rfl (lv_at hl 0 rfl) ?_
  refine lv_aload_n hx hb dQ_copy_16 rfl (lv_at hl 1 rfl) ?_
  refine kget_7_1 hx hb hts inQ hown hC hP (hts _ wQ_f15) dQ_copy_17 ?_
  refine kput_6_1 hx hb hts inQ hown hC hP (hts _ wQ_f15) hS dQ_copy_20 (fun σ2 H locs e2 hP hS => ?_)
  have hE := hE.trans (bd_e e2)
  have hB : KB σ2 := by rw [e2]; exact hB
  refine lv_aload_n hx hb dQ_copy_23 rfl (lv_at hl 0 rfl) ?_
  refine lv_aload_n hx hb dQ_copy_24 rfl (lv_at hl 1 rfl) ?_
  refine kget_7_2 hx hb hts inQ hown hC hP (hts _ wQ_f19) dQ_copy_25 ?_
  refine kput_6_2 hx hb hts inQ hown hC hP (hts _ wQ_f19) hS dQ_copy_28 (fun σ3 H locs e3 hP hS => ?_)
  have hE := hE.trans (bd_e e3)
  have hB : KB σ3 := by rw [e3]; exact hB
  refine lv_aload_n hx hb dQ_copy_31 rfl (lv_at hl 0 rfl) ?_
  refine lv_aload_n hx hb dQ_copy_32 rfl (lv_at hl 1 rfl) ?_
  refine kget_7_3 hx hb hts inQ hown hC hP (hts _ wQ_f28) dQ_copy_33 ?_
  refine kput_6_3 hx hb hts inQ hown hC hP (hts _ wQ_f28) hS dQ_copy_36 (fun σ4 H locs e4 hP hS => ?_)
  have hE := hE.trans (bd_e e4)
  have hB : KB σ4 := by rw [e4]; exact hB
  refine lv_aload_n hx hb dQ_copy_39 rfl (lv_at hl 0 rfl) ?_
  refine lv_aload_n hx hb dQ_copy_40 rfl (lv_at hl 1 rfl) ?_
  refine kget_7_4 hx hb hts inQ hown hC hP (hts _ wQ_f31) dQ_copy_41 ?_
  have z5 : zb (σ4 7 4) := KB_7_4 hB
  refine kput_6_4 hx hb hts inQ hown hC hP (hts _ wQ_f31) hS z5 dQ_copy_44 (fun σ6 H locs e6 hP hS => ?_)
  have hE := hE.trans (bd_e e6)
  have hB : KB σ6 := by rw [e6]; exact KB_6_4s hB z5
  refine lv_aload_n hx hb dQ_copy_47 rfl (lv_at hl 0 rfl) ?_
  refine lv_aload_n hx hb dQ_copy_48 rfl (lv_at hl 1 rfl) ?_
  refine kget_7_5 hx hb hts inQ hown hC hP (hts _ wQ_f35) dQ_copy_49 ?_
  have z7 : zb (σ6 7 5) := KB_7_5 hB
  refine kput_6_5 hx hb hts inQ hown hC hP (hts _ wQ_f35) hS z7 dQ_copy_52 (fun σ8 H locs e8 hP hS => ?_)
  have hE := hE.trans (bd_e e8)
  have hB : KB σ8 := by rw [e8]; exact KB_6_5s hB z7
  refine lv_aload_n hx hb dQ_copy_55 rfl (lv_at hl 0 rfl) ?_
  refine lv_aload_n hx hb dQ_copy_56 rfl (lv_at hl 1 rfl) ?_
  refine kget_7_6 hx hb hts inQ hown hC hP (hts _ wQ_f38) dQ_copy_57 ?_
  refine kput_6_6 hx hb hts inQ hown hC hP (hts _ wQ_f38) hS dQ_copy_60 (fun σ9 H locs e9 hP hS => ?_)
  have hE := hE.trans (bd_e e9)
  have hB : KB σ9 := by rw [e9]; exact hB
  exact W.vret hx hb hr (fun t ht hW => ⟨⟨σ9, rfl, hE.symm, ⟨by rw [ht]; exact hP, hB⟩⟩, hS.F ht⟩) hS.2.2 dQ_copy_63
set_option maxRecDepth 100000 in
set_option maxHeartbeats 4000000 in
theorem c_k_take (l : Launch) (D : va_G) (q : Nat → Nat) (cA : ClassId) (tN : Nat) (σ0 : St) (a1 : Int32) : Met l yK_take wsK_take { frames := 3, cells := 0, slots := 0, locals := 66 } (va_Pc [.ref (q 0), .int a1] (KPre D q cA tN σ0)) (va_Qv (fun u => u = k_take σ0 a1) (KPost D q cA) (KA q)) 0 0 (KA q) := by
  refine Met.ofW (cc := cK_take) (maxL := 2) (ret := none) (by decide) rfl ?_
  intro p e s m args below meth c s₁ B hml hv
  obtain ⟨rfl, hP, hB, hC⟩ := hv
  have hx := B.exec
  have hb := B.bytes
  have hr := B.returns
  have hts : ∀ w ∈ gw, w.before ([.ref (q 0), .int a1] : List Value).toArray s = true := fun w h => atoms_spec (ws := wsK_take) B.pre w (List.mem_cons_of_mem _ h)
  have hown : s.vm.findClass RK = some m.cls := findClass_of_methodNamed B.named
  have hlocks := B.notSynchronized
  have hS : va_S (KA q) s.heap s.heap [] := va_S.rf
  have hl := lv_entry ([.ref (q 0), .int a1]) (n := 2) (Nat.le_of_ble_eq_true rfl)
  rw [lg_entry_eq]
  generalize (lg_sl ([.ref (q 0), .int a1]) ++ List.replicate (2 - (lg_sl ([.ref (q 0), .int a1])).length) Slot.unset).toArray = ls at hl ⊢
  have hl : lv_has ls 2 [(0, .ref (q 0)), (1, .int a1)] := hl
  have hE : k_take σ0 a1 = k_take σ0 a1 := rfl
  have b51 : ∀ (H : Heap) (locs : List Loc) (ls : Array Slot) (σ : St), k_take σ0 a1 = k_take_51 σ → lv_has ls 2 [] → va_P D vwCl (wsK q cA σ) H → KB σ → va_S (KA q) s.heap H locs → W p l e (headSpec wsK_take { frames := 3, cells := 0, slots := 0, locals := 66 }).room s m ([.ref (q 0), .int a1] : List Value).toArray below meth c H locs 0 0 (MQ below (va_Qv (fun u => u = k_take σ0 a1) (KPost D q cA) (KA q)) ([.ref (q 0), .int a1] : List Value).toArray s 0 0 (KA q)) (F0 m 51 ls []) := by
    intro H locs ls σ hE hl hP hB hS
    exact W.vret hx hb hr (fun t ht hW => ⟨⟨σ, rfl, hE.symm, ⟨by rw [ht]; exact hP, hB⟩⟩, hS.F ht⟩) hS.2.2 dK_take_51
  refine lv_aload_n hx hb dK_take_0 rfl (lv_at hl 0 rfl) ?_
  refine kget_0_6 hx hb hts inK hown hC hP (hts _ wK_f32) dK_take_1 ?_
  refine lv_aload_n hx hb dK_take_4 rfl (lv_at hl 0 rfl) ?_
  refine kget_0_5 hx hb hts inK hown hC hP (hts _ wK_f28) dK_take_5 ?_
  refine kcallv (rest := []) ⟨hx, hb, hml, hown, hts⟩ hC hP hB hS (c_k_copy_76 l D q cA tN σ0) (cwV 1 hts gK_97 rfl rfl rfl hdQ_copy ⟨Nat.le_of_ble_eq_true rfl, Nat.le_of_ble_eq_true rfl⟩) (krv_7 hC hP) rfl hl.1 rfl (Nat.le_of_ble_eq_true rfl) dK_take_8 (fun σ1 H locs e1 hP hB hS => ?_)
  have hE := hE.trans (bd_e e1)
  refine lv_aload_n hx hb dK_take_11 rfl (lv_at hl 0 rfl) ?_
  refine lv_iconst (v := 0) hx hb dK_take_12 (by decide) ?_
  refine kput_0_14 hx hb hts inK hown hC hP (hts _ wK_f101) hS dK_take_13 (fun σ2 H locs e2 hP hS => ?_)
  have hE := hE.trans (bd_e e2)
  have hB : KB σ2 := by rw [e2]; exact hB
  refine lv_aload_n hx hb dK_take_16 rfl (lv_at hl 0 rfl) ?_
  refine kcallv (rest := []) ⟨hx, hb, hml, hown, hts⟩ hC hP hB hS (c_k_pushFrame l D q cA tN σ2) (cwV 0 hts gK_164 rfl rfl rfl hdK_pushFrame ⟨Nat.le_of_ble_eq_true rfl, Nat.le_of_ble_eq_true rfl⟩) (krv_0 hC hP) rfl hl.1 rfl (Nat.le_of_ble_eq_true rfl) dK_take_17 (fun σ3 H locs e3 hP hB hS => ?_)
  have hE := hE.trans (bd_e e3)
  refine lv_aload_n hx hb dK_take_20 rfl (lv_at hl 0 rfl) ?_
  refine kget_0_14 hx hb hts inK hown hC hP (hts _ wK_f101) dK_take_21 ?_
  refine lv_if_eq (tgt := 46) hx hb dK_take_24 rfl (fun h4 => ?_) (fun h4 => ?_)
  · have hE := hE.trans (if_pos h4)
    refine lv_aload_n hx hb dK_take_46 rfl (lv_at hl 0 rfl) ?_
    refine lv_iload_n hx hb dK_take_47 rfl (lv_at hl 1 rfl) ?_
    refine kcallv (rest := []) ⟨hx, hb, hml, hown, hts⟩ hC hP hB hS (c_k_enter l D q cA tN σ3 a1) (cwV 1 hts gK_167 rfl rfl rfl hdK_enter ⟨Nat.le_of_ble_eq_true rfl, Nat.le_of_ble_eq_true rfl⟩) (krv_0 hC hP) rfl hl.1 rfl (Nat.le_of_ble_eq_true rfl) dK_take_48 (fun σ5 H locs e5 hP hB hS => ?_)
    have hE := hE.trans (bd_e e5)
    have hl := lv_sub hl [] rfl
    exact b51 _ _ _ _ hE hl hP hB hS
  · have hE := hE.trans (if_neg h4)
    refine lv_aload_n hx hb dK_take_27 rfl (lv_at hl 0 rfl) ?_
    refine kget_0_5 hx hb hts inK hown hC hP (hts _ wK_f28) dK_take_28 ?_
    refine lv_aload_n hx hb dK_take_31 rfl (lv_at hl 0 rfl) ?_
    refine kget_0_6 hx hb hts inK hown hC hP (hts _ wK_f32) dK_take_32 ?_
    refine kcallv (rest := []) ⟨hx, hb, hml, hown, hts⟩ hC hP hB hS (c_k_copy_67 l D q cA tN σ3) (cwV 1 hts gK_97 rfl rfl rfl hdQ_copy ⟨Nat.le_of_ble_eq_true rfl, Nat.le_of_ble_eq_true rfl⟩) (krv_6 hC hP) rfl hl.1 rfl (Nat.le_of_ble_eq_true rfl) dK_take_35 (fun σ6 H locs e6 hP hB hS => ?_)
    have hE := hE.trans (bd_e e6)
    refine lv_aload_n hx hb dK_take_38 rfl (lv_at hl 0 rfl) ?_
    refine lv_iconst (v := 2) hx hb dK_take_39 (by decide) ?_
    refine kput_0_11 hx hb hts inK hown hC hP (hts _ wK_f76) hS dK_take_40 (fun σ7 H locs e7 hP hS => ?_)
    have hE := hE.trans (bd_e e7)
    have hB : KB σ7 := by rw [e7]; exact hB
    refine lv_goto (tgt := 51) hx hb dK_take_43 rfl ?_
    have hl := lv_sub hl [] rfl
    exact b51 _ _ _ _ hE hl hP hB hS
set_option maxRecDepth 100000 in
set_option maxHeartbeats 4000000 in
theorem c_k_takePending (l : Launch) (D : va_G) (q : Nat → Nat) (cA : ClassId) (tN : Nat) (σ0 : St) (hact_σ0 : actOK σ0) : Met l yK_takePending wsK_takePending { frames := 4, cells := 0, slots := 0, locals := 87 } (va_Pc [.ref (q 0)] (KPre D q cA tN σ0)) (va_Qv (fun u => u = k_takePending σ0) (KPost D q cA) (KA q)) 0 0 (KA q) := by
  refine Met.ofW (cc := cK_takePending) (maxL := 3) (ret := none) (by decide) rfl ?_
  intro p e s m args below meth c s₁ B hml hv
  obtain ⟨rfl, hP, hB, hC⟩ := hv
  have hx := B.exec
  have hb := B.bytes
  have hr := B.returns
  have hts : ∀ w ∈ gw, w.before ([.ref (q 0)] : List Value).toArray s = true := fun w h => atoms_spec (ws := wsK_takePending) B.pre w (List.mem_cons_of_mem _ h)
  have hown : s.vm.findClass RK = some m.cls := findClass_of_methodNamed B.named
  have hlocks := B.notSynchronized
  have hS : va_S (KA q) s.heap s.heap [] := va_S.rf
  have hl := lv_entry ([.ref (q 0)]) (n := 3) (Nat.le_of_ble_eq_true rfl)
  rw [lg_entry_eq]
  generalize (lg_sl ([.ref (q 0)]) ++ List.replicate (3 - (lg_sl ([.ref (q 0)])).length) Slot.unset).toArray = ls at hl ⊢
  have hl : lv_has ls 3 [(0, .ref (q 0))] := hl
  have hE : k_takePending σ0 = k_takePending σ0 := rfl
  have b25_7 : ∀ (H : Heap) (locs : List Loc) (ls : Array Slot) (σ : St) (x1 : Int32), bt0 x1 7 → k_takePending σ0 = k_takePending_25_7 σ x1 → lv_has ls 3 [(0, .ref (q 0)), (1, .int x1), (2, .int 7)] → va_P D vwCl (wsK q cA σ) H → KB σ → va_S (KA q) s.heap H locs → W p l e (headSpec wsK_takePending { frames := 4, cells := 0, slots := 0, locals := 87 }).room s m ([.ref (q 0)] : List Value).toArray below meth c H locs 0 0 (MQ below (va_Qv (fun u => u = k_takePending σ0) (KPost D q cA) (KA q)) ([.ref (q 0)] : List Value).toArray s 0 0 (KA q)) (F0 m 25 ls []) := by
    intro H locs ls σ x1 hle7_x1 hE hl hP hB hS
    refine lv_iload_n hx hb dK_takePending_25 rfl (lv_at hl 2 rfl) ?_
    refine lv_iload_n hx hb dK_takePending_26 rfl (lv_at hl 1 rfl) ?_
    refine lv_icmp_ge (tgt := 67) hx hb dK_takePending_27 rfl (fun _ => ?_) (fun h10 => absurd hle7_x1.2 h10)
    exact W.vret hx hb hr (fun t ht hW => ⟨⟨σ, rfl, hE.symm, ⟨by rw [ht]; exact hP, hB⟩⟩, hS.F ht⟩) hS.2.2 dK_takePending_67
  have b25_6 : ∀ (H : Heap) (locs : List Loc) (ls : Array Slot) (σ : St) (x1 : Int32), bt0 x1 7 → k_takePending σ0 = k_takePending_25_6 σ x1 → lv_has ls 3 [(0, .ref (q 0)), (1, .int x1), (2, .int 6)] → va_P D vwCl (wsK q cA σ) H → KB σ → va_S (KA q) s.heap H locs → W p l e (headSpec wsK_takePending { frames := 4, cells := 0, slots := 0, locals := 87 }).room s m ([.ref (q 0)] : List Value).toArray below meth c H locs 0 0 (MQ below (va_Qv (fun u => u = k_takePending σ0) (KPost D q cA) (KA q)) ([.ref (q 0)] : List Value).toArray s 0 0 (KA q)) (F0 m 25 ls []) := by
    intro H locs ls σ x1 hle7_x1 hE hl hP hB hS
    refine lv_iload_n hx hb dK_takePending_25 rfl (lv_at hl 2 rfl) ?_
    refine lv_iload_n hx hb dK_takePending_26 rfl (lv_at hl 1 rfl) ?_
    refine lv_icmp_ge (tgt := 67) hx hb dK_takePending_27 rfl (fun h8 => ?_) (fun h8 => ?_)
    · have hE := hE.trans (if_pos h8)
      exact W.vret hx hb hr (fun t ht hW => ⟨⟨σ, rfl, hE.symm, ⟨by rw [ht]; exact hP, hB⟩⟩, hS.F ht⟩) hS.2.2 dK_takePending_67
    · have hE := hE.trans (if_neg h8)
      refine lv_aload_n hx hb dK_takePending_30 rfl (lv_at hl 0 rfl) ?_
      refine kget_0_12 hx hb hts inK hown hC hP (hts _ wK_f79) dK_takePending_31 ?_
      refine lv_iload_n hx hb dK_takePending_34 rfl (lv_at hl 2 rfl) ?_
      refine lv_ishr hx hb dK_takePending_35 ?_
      refine lv_iconst (v := 1) hx hb dK_takePending_36 (by decide) ?_
      refine lv_iand hx hb dK_takePending_37 ?_
      refine lv_if_eq (tgt := 61) hx hb dK_takePending_38 rfl (fun h9 => ?_) (fun h9 => ?_)
      · have hE := hE.trans (if_pos h9)
        refine lv_iinc (k := 2) (v := 7) (lv' := [(2, .int 7), (0, .ref (q 0)), (1, .int x1)]) hx hb dK_takePending_61 hl rfl (by decide) (by decide) rfl (fun ls hl => ?_)
        refine lv_goto (tgt := 25) hx hb dK_takePending_64 rfl ?_
        have hl := lv_sub hl [1, 2, 0] rfl
        exact b25_7 _ _ _ _ x1 hle7_x1 hE hl hP hB hS
      · have hE := hE.trans (if_neg h9)
        refine lv_aload_n hx hb dK_takePending_41 rfl (lv_at hl 0 rfl) ?_
        refine lv_dup hx hb dK_takePending_42 rfl ?_
        refine kget_0_12 hx hb hts inK hown hC hP (hts _ wK_f79) dK_takePending_43 ?_
        refine lv_iconst (v := 1) hx hb dK_takePending_46 (by decide) ?_
        refine lv_iload_n hx hb dK_takePending_47 rfl (lv_at hl 2 rfl) ?_
        refine lv_ishl hx hb dK_takePending_48 ?_
        refine lv_iconst (v := (-1)) hx hb dK_takePending_49 (by decide) ?_
        refine lv_ixor hx hb dK_takePending_50 ?_
        refine lv_iand hx hb dK_takePending_51 ?_
        refine kput_0_12 hx hb hts inK hown hC hP (hts _ wK_f79) hS dK_takePending_52 (fun σ11 H locs e11 hP hS => ?_)
        have hE := hE.trans (bd_e e11)
        have hB : KB σ11 := by rw [e11]; exact hB
        refine lv_aload_n hx hb dK_takePending_55 rfl (lv_at hl 0 rfl) ?_
        refine lv_iload_n hx hb dK_takePending_56 rfl (lv_at hl 2 rfl) ?_
        refine kcallv (rest := []) ⟨hx, hb, hml, hown, hts⟩ hC hP hB hS (c_k_take l D q cA tN σ11 6) (cwV 1 hts gK_124 rfl rfl rfl hdK_take ⟨Nat.le_of_ble_eq_true rfl, Nat.le_of_ble_eq_true rfl⟩) (krv_0 hC hP) rfl hl.1 rfl (Nat.le_of_ble_eq_true rfl) dK_takePending_57 (fun σ12 H locs e12 hP hB hS => ?_)
        have hE := hE.trans (bd_e e12)
        exact W.vret hx hb hr (fun t ht hW => ⟨⟨σ12, rfl, hE.symm, ⟨by rw [ht]; exact hP, hB⟩⟩, hS.F ht⟩) hS.2.2 dK_takePending_60
  have b25_5 : ∀ (H : Heap) (locs : List Loc) (ls : Array Slot) (σ : St) (x1 : Int32), bt0 x1 7 → k_takePending σ0 = k_takePending_25_5 σ x1 → lv_has ls 3 [(0, .ref (q 0)), (1, .int x1), (2, .int 5)] → va_P D vwCl (wsK q cA σ) H → KB σ → va_S (KA q) s.heap H locs → W p l e (headSpec wsK_takePending { frames := 4, cells := 0, slots := 0, locals := 87 }).room s m ([.ref (q 0)] : List Value).toArray below meth c H locs 0 0 (MQ below (va_Qv (fun u => u = k_takePending σ0) (KPost D q cA) (KA q)) ([.ref (q 0)] : List Value).toArray s 0 0 (KA q)) (F0 m 25 ls []) := by
    intro H locs ls σ x1 hle7_x1 hE hl hP hB hS
    refine lv_iload_n hx hb dK_takePending_25 rfl (lv_at hl 2 rfl) ?_
    refine lv_iload_n hx hb dK_takePending_26 rfl (lv_at hl 1 rfl) ?_
    refine lv_icmp_ge (tgt := 67) hx hb dK_takePending_27 rfl (fun h6 => ?_) (fun h6 => ?_)
    · have hE := hE.trans (if_pos h6)
      exact W.vret hx hb hr (fun t ht hW => ⟨⟨σ, rfl, hE.symm, ⟨by rw [ht]; exact hP, hB⟩⟩, hS.F ht⟩) hS.2.2 dK_takePending_67
    · have hE := hE.trans (if_neg h6)
      refine lv_aload_n hx hb dK_takePending_30 rfl (lv_at hl 0 rfl) ?_
      refine kget_0_12 hx hb hts inK hown hC hP (hts _ wK_f79) dK_takePending_31 ?_
      refine lv_iload_n hx hb dK_takePending_34 rfl (lv_at hl 2 rfl) ?_
      refine lv_ishr hx hb dK_takePending_35 ?_
      refine lv_iconst (v := 1) hx hb dK_takePending_36 (by decide) ?_
      refine lv_iand hx hb dK_takePending_37 ?_
      refine lv_if_eq (tgt := 61) hx hb dK_takePending_38 rfl (fun h7 => ?_) (fun h7 => ?_)
      · have hE := hE.trans (if_pos h7)
        refine lv_iinc (k := 2) (v := 6) (lv' := [(2, .int 6), (0, .ref (q 0)), (1, .int x1)]) hx hb dK_takePending_61 hl rfl (by decide) (by decide) rfl (fun ls hl => ?_)
        refine lv_goto (tgt := 25) hx hb dK_takePending_64 rfl ?_
        have hl := lv_sub hl [1, 2, 0] rfl
        exact b25_6 _ _ _ _ x1 hle7_x1 hE hl hP hB hS
      · have hE := hE.trans (if_neg h7)
        refine lv_aload_n hx hb dK_takePending_41 rfl (lv_at hl 0 rfl) ?_
        refine lv_dup hx hb dK_takePending_42 rfl ?_
        refine kget_0_12 hx hb hts inK hown hC hP (hts _ wK_f79) dK_takePending_43 ?_
        refine lv_iconst (v := 1) hx hb dK_takePending_46 (by decide) ?_
        refine lv_iload_n hx hb dK_takePending_47 rfl (lv_at hl 2 rfl) ?_
        refine lv_ishl hx hb dK_takePending_48 ?_
        refine lv_iconst (v := (-1)) hx hb dK_takePending_49 (by decide) ?_
        refine lv_ixor hx hb dK_takePending_50 ?_
        refine lv_iand hx hb dK_takePending_51 ?_
        refine kput_0_12 hx hb hts inK hown hC hP (hts _ wK_f79) hS dK_takePending_52 (fun σ13 H locs e13 hP hS => ?_)
        have hE := hE.trans (bd_e e13)
        have hB : KB σ13 := by rw [e13]; exact hB
        refine lv_aload_n hx hb dK_takePending_55 rfl (lv_at hl 0 rfl) ?_
        refine lv_iload_n hx hb dK_takePending_56 rfl (lv_at hl 2 rfl) ?_
        refine kcallv (rest := []) ⟨hx, hb, hml, hown, hts⟩ hC hP hB hS (c_k_take l D q cA tN σ13 5) (cwV 1 hts gK_124 rfl rfl rfl hdK_take ⟨Nat.le_of_ble_eq_true rfl, Nat.le_of_ble_eq_true rfl⟩) (krv_0 hC hP) rfl hl.1 rfl (Nat.le_of_ble_eq_true rfl) dK_takePending_57 (fun σ14 H locs e14 hP hB hS => ?_)
        have hE := hE.trans (bd_e e14)
        exact W.vret hx hb hr (fun t ht hW => ⟨⟨σ14, rfl, hE.symm, ⟨by rw [ht]; exact hP, hB⟩⟩, hS.F ht⟩) hS.2.2 dK_takePending_60
  have b25_4 : ∀ (H : Heap) (locs : List Loc) (ls : Array Slot) (σ : St) (x1 : Int32), bt0 x1 7 → k_takePending σ0 = k_takePending_25_4 σ x1 → lv_has ls 3 [(0, .ref (q 0)), (1, .int x1), (2, .int 4)] → va_P D vwCl (wsK q cA σ) H → KB σ → va_S (KA q) s.heap H locs → W p l e (headSpec wsK_takePending { frames := 4, cells := 0, slots := 0, locals := 87 }).room s m ([.ref (q 0)] : List Value).toArray below meth c H locs 0 0 (MQ below (va_Qv (fun u => u = k_takePending σ0) (KPost D q cA) (KA q)) ([.ref (q 0)] : List Value).toArray s 0 0 (KA q)) (F0 m 25 ls []) := by
    intro H locs ls σ x1 hle7_x1 hE hl hP hB hS
    refine lv_iload_n hx hb dK_takePending_25 rfl (lv_at hl 2 rfl) ?_
    refine lv_iload_n hx hb dK_takePending_26 rfl (lv_at hl 1 rfl) ?_
    refine lv_icmp_ge (tgt := 67) hx hb dK_takePending_27 rfl (fun h4 => ?_) (fun h4 => ?_)
    · have hE := hE.trans (if_pos h4)
      exact W.vret hx hb hr (fun t ht hW => ⟨⟨σ, rfl, hE.symm, ⟨by rw [ht]; exact hP, hB⟩⟩, hS.F ht⟩) hS.2.2 dK_takePending_67
    · have hE := hE.trans (if_neg h4)
      refine lv_aload_n hx hb dK_takePending_30 rfl (lv_at hl 0 rfl) ?_
      refine kget_0_12 hx hb hts inK hown hC hP (hts _ wK_f79) dK_takePending_31 ?_
      refine lv_iload_n hx hb dK_takePending_34 rfl (lv_at hl 2 rfl) ?_
      refine lv_ishr hx hb dK_takePending_35 ?_
      refine lv_iconst (v := 1) hx hb dK_takePending_36 (by decide) ?_
      refine lv_iand hx hb dK_takePending_37 ?_
      refine lv_if_eq (tgt := 61) hx hb dK_takePending_38 rfl (fun h5 => ?_) (fun h5 => ?_)
      · have hE := hE.trans (if_pos h5)
        refine lv_iinc (k := 2) (v := 5) (lv' := [(2, .int 5), (0, .ref (q 0)), (1, .int x1)]) hx hb dK_takePending_61 hl rfl (by decide) (by decide) rfl (fun ls hl => ?_)
        refine lv_goto (tgt := 25) hx hb dK_takePending_64 rfl ?_
        have hl := lv_sub hl [1, 2, 0] rfl
        exact b25_5 _ _ _ _ x1 hle7_x1 hE hl hP hB hS
      · have hE := hE.trans (if_neg h5)
        refine lv_aload_n hx hb dK_takePending_41 rfl (lv_at hl 0 rfl) ?_
        refine lv_dup hx hb dK_takePending_42 rfl ?_
        refine kget_0_12 hx hb hts inK hown hC hP (hts _ wK_f79) dK_takePending_43 ?_
        refine lv_iconst (v := 1) hx hb dK_takePending_46 (by decide) ?_
        refine lv_iload_n hx hb dK_takePending_47 rfl (lv_at hl 2 rfl) ?_
        refine lv_ishl hx hb dK_takePending_48 ?_
        refine lv_iconst (v := (-1)) hx hb dK_takePending_49 (by decide) ?_
        refine lv_ixor hx hb dK_takePending_50 ?_
        refine lv_iand hx hb dK_takePending_51 ?_
        refine kput_0_12 hx hb hts inK hown hC hP (hts _ wK_f79) hS dK_takePending_52 (fun σ15 H locs e15 hP hS => ?_)
        have hE := hE.trans (bd_e e15)
        have hB : KB σ15 := by rw [e15]; exact hB
        refine lv_aload_n hx hb dK_takePending_55 rfl (lv_at hl 0 rfl) ?_
        refine lv_iload_n hx hb dK_takePending_56 rfl (lv_at hl 2 rfl) ?_
        refine kcallv (rest := []) ⟨hx, hb, hml, hown, hts⟩ hC hP hB hS (c_k_take l D q cA tN σ15 4) (cwV 1 hts gK_124 rfl rfl rfl hdK_take ⟨Nat.le_of_ble_eq_true rfl, Nat.le_of_ble_eq_true rfl⟩) (krv_0 hC hP) rfl hl.1 rfl (Nat.le_of_ble_eq_true rfl) dK_takePending_57 (fun σ16 H locs e16 hP hB hS => ?_)
        have hE := hE.trans (bd_e e16)
        exact W.vret hx hb hr (fun t ht hW => ⟨⟨σ16, rfl, hE.symm, ⟨by rw [ht]; exact hP, hB⟩⟩, hS.F ht⟩) hS.2.2 dK_takePending_60
  have b25_3 : ∀ (H : Heap) (locs : List Loc) (ls : Array Slot) (σ : St) (x1 : Int32), bt0 x1 7 → k_takePending σ0 = k_takePending_25_3 σ x1 → lv_has ls 3 [(0, .ref (q 0)), (1, .int x1), (2, .int 3)] → va_P D vwCl (wsK q cA σ) H → KB σ → va_S (KA q) s.heap H locs → W p l e (headSpec wsK_takePending { frames := 4, cells := 0, slots := 0, locals := 87 }).room s m ([.ref (q 0)] : List Value).toArray below meth c H locs 0 0 (MQ below (va_Qv (fun u => u = k_takePending σ0) (KPost D q cA) (KA q)) ([.ref (q 0)] : List Value).toArray s 0 0 (KA q)) (F0 m 25 ls []) := by
    intro H locs ls σ x1 hle7_x1 hE hl hP hB hS
    refine lv_iload_n hx hb dK_takePending_25 rfl (lv_at hl 2 rfl) ?_
    refine lv_iload_n hx hb dK_takePending_26 rfl (lv_at hl 1 rfl) ?_
    refine lv_icmp_ge (tgt := 67) hx hb dK_takePending_27 rfl (fun h2 => ?_) (fun h2 => ?_)
    · have hE := hE.trans (if_pos h2)
      exact W.vret hx hb hr (fun t ht hW => ⟨⟨σ, rfl, hE.symm, ⟨by rw [ht]; exact hP, hB⟩⟩, hS.F ht⟩) hS.2.2 dK_takePending_67
    · have hE := hE.trans (if_neg h2)
      refine lv_aload_n hx hb dK_takePending_30 rfl (lv_at hl 0 rfl) ?_
      refine kget_0_12 hx hb hts inK hown hC hP (hts _ wK_f79) dK_takePending_31 ?_
      refine lv_iload_n hx hb dK_takePending_34 rfl (lv_at hl 2 rfl) ?_
      refine lv_ishr hx hb dK_takePending_35 ?_
      refine lv_iconst (v := 1) hx hb dK_takePending_36 (by decide) ?_
      refine lv_iand hx hb dK_takePending_37 ?_
      refine lv_if_eq (tgt := 61) hx hb dK_takePending_38 rfl (fun h3 => ?_) (fun h3 => ?_)
      · have hE := hE.trans (if_pos h3)
        refine lv_iinc (k := 2) (v := 4) (lv' := [(2, .int 4), (0, .ref (q 0)), (1, .int x1)]) hx hb dK_takePending_61 hl rfl (by decide) (by decide) rfl (fun ls hl => ?_)
        refine lv_goto (tgt := 25) hx hb dK_takePending_64 rfl ?_
        have hl := lv_sub hl [1, 2, 0] rfl
        exact b25_4 _ _ _ _ x1 hle7_x1 hE hl hP hB hS
      · have hE := hE.trans (if_neg h3)
        refine lv_aload_n hx hb dK_takePending_41 rfl (lv_at hl 0 rfl) ?_
        refine lv_dup hx hb dK_takePending_42 rfl ?_
        refine kget_0_12 hx hb hts inK hown hC hP (hts _ wK_f79) dK_takePending_43 ?_
        refine lv_iconst (v := 1) hx hb dK_takePending_46 (by decide) ?_
        refine lv_iload_n hx hb dK_takePending_47 rfl (lv_at hl 2 rfl) ?_
        refine lv_ishl hx hb dK_takePending_48 ?_
        refine lv_iconst (v := (-1)) hx hb dK_takePending_49 (by decide) ?_
        refine lv_ixor hx hb dK_takePending_50 ?_
        refine lv_iand hx hb dK_takePending_51 ?_
        refine kput_0_12 hx hb hts inK hown hC hP (hts _ wK_f79) hS dK_takePending_52 (fun σ17 H locs e17 hP hS => ?_)
        have hE := hE.trans (bd_e e17)
        have hB : KB σ17 := by rw [e17]; exact hB
        refine lv_aload_n hx hb dK_takePending_55 rfl (lv_at hl 0 rfl) ?_
        refine lv_iload_n hx hb dK_takePending_56 rfl (lv_at hl 2 rfl) ?_
        refine kcallv (rest := []) ⟨hx, hb, hml, hown, hts⟩ hC hP hB hS (c_k_take l D q cA tN σ17 3) (cwV 1 hts gK_124 rfl rfl rfl hdK_take ⟨Nat.le_of_ble_eq_true rfl, Nat.le_of_ble_eq_true rfl⟩) (krv_0 hC hP) rfl hl.1 rfl (Nat.le_of_ble_eq_true rfl) dK_takePending_57 (fun σ18 H locs e18 hP hB hS => ?_)
        have hE := hE.trans (bd_e e18)
        exact W.vret hx hb hr (fun t ht hW => ⟨⟨σ18, rfl, hE.symm, ⟨by rw [ht]; exact hP, hB⟩⟩, hS.F ht⟩) hS.2.2 dK_takePending_60
  have b22 : ∀ (H : Heap) (locs : List Loc) (ls : Array Slot) (σ : St) (y0 : Int32), bt0 y0 7 → k_takePending σ0 = k_takePending_22 σ y0 → lv_has ls 3 [(0, .ref (q 0))] → va_P D vwCl (wsK q cA σ) H → KB σ → va_S (KA q) s.heap H locs → W p l e (headSpec wsK_takePending { frames := 4, cells := 0, slots := 0, locals := 87 }).room s m ([.ref (q 0)] : List Value).toArray below meth c H locs 0 0 (MQ below (va_Qv (fun u => u = k_takePending σ0) (KPost D q cA) (KA q)) ([.ref (q 0)] : List Value).toArray s 0 0 (KA q)) (F0 m 22 ls [.int y0]) := by
    intro H locs ls σ y0 hle7_y0 hE hl hP hB hS
    refine lv_istore_n (lv' := [(1, .int y0), (0, .ref (q 0))]) hx hb dK_takePending_22 rfl hl (by decide) rfl (fun ls hl => ?_)
    refine lv_iconst (v := 3) hx hb dK_takePending_23 (by decide) ?_
    refine lv_istore_n (lv' := [(2, .int 3), (1, .int y0), (0, .ref (q 0))]) hx hb dK_takePending_24 rfl hl (by decide) rfl (fun ls hl => ?_)
    have hl := lv_sub hl [2, 1, 0] rfl
    exact b25_3 _ _ _ _ y0 hle7_y0 hE hl hP hB hS
  refine lv_aload_n hx hb dK_takePending_0 rfl (lv_at hl 0 rfl) ?_
  refine kget_0_5 hx hb hts inK hown hC hP (hts _ wK_f28) dK_takePending_1 ?_
  refine kget_6_6 hx hb hts inQ hown hC hP (hts _ wK_f73) dK_takePending_4 ?_
  refine lv_if_ne (tgt := 15) hx hb dK_takePending_7 rfl (fun h1 => ?_) (fun h1 => ?_)
  · have hE := hE.trans (if_neg h1)
    refine lv_aload_n hx hb dK_takePending_15 rfl (lv_at hl 0 rfl) ?_
    refine kget_0_5 hx hb hts inK hown hC hP (hts _ wK_f28) dK_takePending_16 ?_
    refine kget_6_6 hx hb hts inQ hown hC hP (hts _ wK_f73) dK_takePending_19 ?_
    exact b22 _ _ _ _ (σ0 6 6) hact_σ0 hE hl hP hB hS
  · have hE := hE.trans (if_pos h1)
    refine lv_bipush (v := 7) hx hb dK_takePending_10 (by decide) ?_
    refine lv_goto (tgt := 22) hx hb dK_takePending_12 rfl ?_
    exact b22 _ _ _ _ 7 (by decide) hE hl hP hB hS
set_option maxRecDepth 100000 in
set_option maxHeartbeats 4000000 in
theorem c_k_fetch (l : Launch) (D : va_G) (q : Nat → Nat) (cA : ClassId) (tN : Nat) (σ0 : St) : Met l yK_fetch wsK_fetch { frames := 0, cells := 0, slots := 0, locals := 0 } (va_Pc [.ref (q 0)] (KPre D q cA tN σ0)) (va_Qi (fun r u => (u, r) = k_fetch σ0) (KPost D q cA) (KA q)) 0 0 (KA q) := by
  refine Met.ofW (cc := cK_fetch) (maxL := 3) (ret := (some .int)) (by decide) rfl ?_
  intro p e s m args below meth c s₁ B hml hv
  obtain ⟨rfl, hP, hB, hC⟩ := hv
  have hx := B.exec
  have hb := B.bytes
  have hr := B.returns
  have hts : ∀ w ∈ gw, w.before ([.ref (q 0)] : List Value).toArray s = true := fun w h => atoms_spec (ws := wsK_fetch) B.pre w (List.mem_cons_of_mem _ h)
  have hown : s.vm.findClass RK = some m.cls := findClass_of_methodNamed B.named
  have hlocks := B.notSynchronized
  have hS : va_S (KA q) s.heap s.heap [] := va_S.rf
  have hl := lv_entry ([.ref (q 0)]) (n := 3) (Nat.le_of_ble_eq_true rfl)
  rw [lg_entry_eq]
  generalize (lg_sl ([.ref (q 0)]) ++ List.replicate (3 - (lg_sl ([.ref (q 0)])).length) Slot.unset).toArray = ls at hl ⊢
  have hl : lv_has ls 3 [(0, .ref (q 0))] := hl
  have hE : k_fetch σ0 = k_fetch σ0 := rfl
  have b107 : ∀ (H : Heap) (locs : List Loc) (ls : Array Slot) (σ : St) (x1 : Int32), k_fetch σ0 = k_fetch_107 σ x1 → lv_has ls 3 [(1, .int x1)] → va_P D vwCl (wsK q cA σ) H → KB σ → va_S (KA q) s.heap H locs → W p l e (headSpec wsK_fetch { frames := 0, cells := 0, slots := 0, locals := 0 }).room s m ([.ref (q 0)] : List Value).toArray below meth c H locs 0 0 (MQ below (va_Qi (fun r u => (u, r) = k_fetch σ0) (KPost D q cA) (KA q)) ([.ref (q 0)] : List Value).toArray s 0 0 (KA q)) (F0 m 107 ls []) := by
    intro H locs ls σ x1 hE hl hP hB hS
    refine lv_iload_n hx hb dK_fetch_107 rfl (lv_at hl 0 rfl) ?_
    exact W.iret (v := x1) hx hb hr (fun t ht hW => ⟨⟨x1, σ, rfl, hE.symm, ⟨by rw [ht]; exact hP, hB⟩⟩, hS.F ht⟩) hS.2.2 dK_fetch_108
  have b97 : ∀ (H : Heap) (locs : List Loc) (ls : Array Slot) (σ : St) (x1 : Int32) (x2 : Int32), k_fetch σ0 = k_fetch_97 σ x1 x2 → lv_has ls 3 [(0, .ref (q 0)), (1, .int x1), (2, .int x2)] → va_P D vwCl (wsK q cA σ) H → KB σ → va_S (KA q) s.heap H locs → W p l e (headSpec wsK_fetch { frames := 0, cells := 0, slots := 0, locals := 0 }).room s m ([.ref (q 0)] : List Value).toArray below meth c H locs 0 0 (MQ below (va_Qi (fun r u => (u, r) = k_fetch σ0) (KPost D q cA) (KA q)) ([.ref (q 0)] : List Value).toArray s 0 0 (KA q)) (F0 m 97 ls []) := by
    intro H locs ls σ x1 x2 hE hl hP hB hS
    refine lv_iload_n hx hb dK_fetch_97 rfl (lv_at hl 2 rfl) ?_
    refine lv_iconst (v := 1) hx hb dK_fetch_98 (by decide) ?_
    refine lv_icmp_eq (tgt := 107) hx hb dK_fetch_99 rfl (fun h4 => ?_) (fun h4 => ?_)
    · have hE := hE.trans (if_pos h4)
      have hl := lv_sub hl [1] rfl
      exact b107 _ _ _ _ x1 hE hl hP hB hS
    · have hE := hE.trans (if_neg h4)
      refine lv_aload_n hx hb dK_fetch_102 rfl (lv_at hl 0 rfl) ?_
      refine lv_iconst (v := 2) hx hb dK_fetch_103 (by decide) ?_
      refine kput_0_14 hx hb hts inK hown hC hP (hts _ wK_f101) hS dK_fetch_104 (fun σ5 H locs e5 hP hS => ?_)
      have hE := hE.trans (bd_e e5)
      have hB : KB σ5 := by rw [e5]; exact hB
      have hl := lv_sub hl [1] rfl
      exact b107 _ _ _ _ x1 hE hl hP hB hS
  refine lv_aload_n hx hb dK_fetch_0 rfl (lv_at hl 0 rfl) ?_
  refine kget_0_0 hx hb hts inK hown hC hP (hts _ wK_f9) dK_fetch_1 ?_
  refine lv_aload_n hx hb dK_fetch_4 rfl (lv_at hl 0 rfl) ?_
  refine kget_0_5 hx hb hts inK hown hC hP (hts _ wK_f28) dK_fetch_5 ?_
  refine kget_6_3 hx hb hts inQ hown hC hP (hts _ wK_f61) dK_fetch_8 ?_
  refine lv_sipush (v := 255) hx hb dK_fetch_11 (by decide) ?_
  refine lv_iand hx hb dK_fetch_14 ?_
  refine kald_1 hx hb hC hP (vin_m 8 (by decide) (by decide) (by decide)) dK_fetch_15 ?_
  refine lv_istore_n (lv' := [(1, .int (σ0 1 (ix ((σ0 6 3) &&& 255)))), (0, .ref (q 0))]) hx hb dK_fetch_16 rfl hl (by decide) rfl (fun ls hl => ?_)
  refine lv_aload_n hx hb dK_fetch_17 rfl (lv_at hl 1 rfl) ?_
  refine kget_0_1 hx hb hts inK hown hC hP (hts _ wK_f13) dK_fetch_18 ?_
  refine lv_aload_n hx hb dK_fetch_21 rfl (lv_at hl 1 rfl) ?_
  refine kget_0_5 hx hb hts inK hown hC hP (hts _ wK_f28) dK_fetch_22 ?_
  refine kget_6_3 hx hb hts inQ hown hC hP (hts _ wK_f61) dK_fetch_25 ?_
  refine lv_sipush (v := 255) hx hb dK_fetch_28 (by decide) ?_
  refine lv_iand hx hb dK_fetch_31 ?_
  refine kald_2 hx hb hC hP (vin_m 8 (by decide) (by decide) (by decide)) dK_fetch_32 ?_
  refine lv_istore_n (lv' := [(2, .int (σ0 2 (ix ((σ0 6 3) &&& 255)))), (1, .int (σ0 1 (ix ((σ0 6 3) &&& 255)))), (0, .ref (q 0))]) hx hb dK_fetch_33 rfl hl (by decide) rfl (fun ls hl => ?_)
  refine lv_aload_n hx hb dK_fetch_34 rfl (lv_at hl 2 rfl) ?_
  refine kget_0_5 hx hb hts inK hown hC hP (hts _ wK_f28) dK_fetch_35 ?_
  refine kget_6_5 hx hb hts inQ hown hC hP (hts _ wK_f64) dK_fetch_38 ?_
  have z1 : zb (σ0 6 5) := KB_6_5 hB
  refine lv_if_ne (tgt := 57) hx hb dK_fetch_41 rfl (fun h2 => ?_) (fun h2 => ?_)
  · have hE := hE.trans (if_neg h2)
    refine lv_iload_n hx hb dK_fetch_57 rfl (lv_at hl 0 rfl) ?_
    refine lv_iconst (v := 2) hx hb dK_fetch_58 (by decide) ?_
    refine lv_icmp_ne (tgt := 97) hx hb dK_fetch_59 rfl (fun h3 => ?_) (fun h3 => ?_)
    · have hE := hE.trans (if_neg h3)
      have hl := lv_sub hl [2, 1, 0] rfl
      exact b97 _ _ _ _ (σ0 1 (ix ((σ0 6 3) &&& 255))) (σ0 2 (ix ((σ0 6 3) &&& 255))) hE hl hP hB hS
    · have hE := hE.trans (if_pos h3)
      refine lv_iload_n hx hb dK_fetch_62 rfl (lv_at hl 1 rfl) ?_
      refine lv_bipush (v := 12) hx hb dK_fetch_63 (by decide) ?_
      refine lv_ishr hx hb dK_fetch_65 ?_
      refine lv_bipush (v := 10) hx hb dK_fetch_66 (by decide) ?_
      refine lv_icmp_ne (tgt := 97) hx hb dK_fetch_68 rfl (fun h6 => ?_) (fun h6 => ?_)
      · have hE := hE.trans (if_neg h6)
        have hl := lv_sub hl [2, 1, 0] rfl
        exact b97 _ _ _ _ (σ0 1 (ix ((σ0 6 3) &&& 255))) (σ0 2 (ix ((σ0 6 3) &&& 255))) hE hl hP hB hS
      · have hE := hE.trans (if_pos h6)
        refine lv_aload_n hx hb dK_fetch_71 rfl (lv_at hl 2 rfl) ?_
        refine kget_0_5 hx hb hts inK hown hC hP (hts _ wK_f28) dK_fetch_72 ?_
        refine lv_iconst (v := 0) hx hb dK_fetch_75 (by decide) ?_
        refine kput_6_5 hx hb hts inQ hown hC hP (hts _ wK_f64) hS (by decide) dK_fetch_76 (fun σ7 H locs e7 hP hS => ?_)
        have hE := hE.trans (bd_e e7)
        have hB : KB σ7 := by rw [e7]; exact KB_6_5s hB (by decide)
        refine lv_aload_n hx hb dK_fetch_79 rfl (lv_at hl 2 rfl) ?_
        refine kget_0_5 hx hb hts inK hown hC hP (hts _ wK_f28) dK_fetch_80 ?_
        refine kget_6_0 hx hb hts inQ hown hC hP (hts _ wK_f82) dK_fetch_83 ?_
        refine lv_bipush (v := 6) hx hb dK_fetch_86 (by decide) ?_
        refine lv_dup2_11 hx hb dK_fetch_88 rfl rfl ?_
        refine kald_8 hx hb hC hP (vin_c (by decide)) dK_fetch_89 ?_
        refine lv_ldc (v := 32768) hx hb hown (hts _ wK_c127) dK_fetch_90 ?_
        refine lv_ior hx hb dK_fetch_92 ?_
        refine kast_8 hx hb hC hP hS (vin_c (by decide)) dK_fetch_93 (fun σ8 H locs e8 hP hS => ?_)
        have hE := hE.trans (bd_e e8)
        have hB : KB σ8 := by rw [e8]; exact hB
        refine lv_goto (tgt := 107) hx hb dK_fetch_94 rfl ?_
        have hl := lv_sub hl [1] rfl
        exact b107 _ _ _ _ (σ0 1 (ix ((σ0 6 3) &&& 255))) hE hl hP hB hS
  · have hE := hE.trans (if_pos h2)
    refine lv_iload_n hx hb dK_fetch_44 rfl (lv_at hl 0 rfl) ?_
    refine lv_iconst (v := 1) hx hb dK_fetch_45 (by decide) ?_
    refine lv_icmp_ne (tgt := 107) hx hb dK_fetch_46 rfl (fun h9 => ?_) (fun h9 => ?_)
    · have hE := hE.trans (if_neg h9)
      have hl := lv_sub hl [1] rfl
      exact b107 _ _ _ _ (σ0 1 (ix ((σ0 6 3) &&& 255))) hE hl hP hB hS
    · have hE := hE.trans (if_pos h9)
      refine lv_aload_n hx hb dK_fetch_49 rfl (lv_at hl 2 rfl) ?_
      refine lv_iconst (v := 2) hx hb dK_fetch_50 (by decide) ?_
      refine kput_0_14 hx hb hts inK hown hC hP (hts _ wK_f101) hS dK_fetch_51 (fun σ10 H locs e10 hP hS => ?_)
      have hE := hE.trans (bd_e e10)
      have hB : KB σ10 := by rw [e10]; exact hB
      refine lv_goto (tgt := 107) hx hb dK_fetch_54 rfl ?_
      have hl := lv_sub hl [1] rfl
      exact b107 _ _ _ _ (σ0 1 (ix ((σ0 6 3) &&& 255))) hE hl hP hB hS
set_option maxRecDepth 100000 in
set_option maxHeartbeats 4000000 in
theorem c_k_answerFault (l : Launch) (D : va_G) (q : Nat → Nat) (cA : ClassId) (tN : Nat) (σ0 : St) : Met l yK_answerFault wsK_answerFault { frames := 4, cells := 0, slots := 0, locals := 87 } (va_Pc [.ref (q 0)] (KPre D q cA tN σ0)) (va_Qv (fun u => u = k_answerFault σ0) (KPost D q cA) (KA q)) 0 0 (KA q) := by
  refine Met.ofW (cc := cK_answerFault) (maxL := 2) (ret := none) (by decide) rfl ?_
  intro p e s m args below meth c s₁ B hml hv
  obtain ⟨rfl, hP, hB, hC⟩ := hv
  have hx := B.exec
  have hb := B.bytes
  have hr := B.returns
  have hts : ∀ w ∈ gw, w.before ([.ref (q 0)] : List Value).toArray s = true := fun w h => atoms_spec (ws := wsK_answerFault) B.pre w (List.mem_cons_of_mem _ h)
  have hown : s.vm.findClass RK = some m.cls := findClass_of_methodNamed B.named
  have hlocks := B.notSynchronized
  have hS : va_S (KA q) s.heap s.heap [] := va_S.rf
  have hl := lv_entry ([.ref (q 0)]) (n := 2) (Nat.le_of_ble_eq_true rfl)
  rw [lg_entry_eq]
  generalize (lg_sl ([.ref (q 0)]) ++ List.replicate (2 - (lg_sl ([.ref (q 0)])).length) Slot.unset).toArray = ls at hl ⊢
  have hl : lv_has ls 2 [(0, .ref (q 0))] := hl
  have hE : k_answerFault σ0 = k_answerFault σ0 := rfl
  have b67 : ∀ (H : Heap) (locs : List Loc) (ls : Array Slot) (σ : St), k_answerFault σ0 = k_answerFault_67 σ → lv_has ls 2 [] → va_P D vwCl (wsK q cA σ) H → KB σ → va_S (KA q) s.heap H locs → W p l e (headSpec wsK_answerFault { frames := 4, cells := 0, slots := 0, locals := 87 }).room s m ([.ref (q 0)] : List Value).toArray below meth c H locs 0 0 (MQ below (va_Qv (fun u => u = k_answerFault σ0) (KPost D q cA) (KA q)) ([.ref (q 0)] : List Value).toArray s 0 0 (KA q)) (F0 m 67 ls []) := by
    intro H locs ls σ hE hl hP hB hS
    exact W.vret hx hb hr (fun t ht hW => ⟨⟨σ, rfl, hE.symm, ⟨by rw [ht]; exact hP, hB⟩⟩, hS.F ht⟩) hS.2.2 dK_answerFault_67
  have b54 : ∀ (H : Heap) (locs : List Loc) (ls : Array Slot) (σ : St), k_answerFault σ0 = k_answerFault_54 σ → lv_has ls 2 [(0, .ref (q 0))] → va_P D vwCl (wsK q cA σ) H → KB σ → va_S (KA q) s.heap H locs → W p l e (headSpec wsK_answerFault { frames := 4, cells := 0, slots := 0, locals := 87 }).room s m ([.ref (q 0)] : List Value).toArray below meth c H locs 0 0 (MQ below (va_Qv (fun u => u = k_answerFault σ0) (KPost D q cA) (KA q)) ([.ref (q 0)] : List Value).toArray s 0 0 (KA q)) (F0 m 54 ls []) := by
    intro H locs ls σ hE hl hP hB hS
    refine lv_aload_n hx hb dK_answerFault_54 rfl (lv_at hl 0 rfl) ?_
    refine lv_iconst (v := 2) hx hb dK_answerFault_55 (by decide) ?_
    refine kput_0_11 hx hb hts inK hown hC hP (hts _ wK_f76) hS dK_answerFault_56 (fun σ5 H locs e5 hP hS => ?_)
    have hE := hE.trans (bd_e e5)
    have hB : KB σ5 := by rw [e5]; exact hB
    refine lv_goto (tgt := 67) hx hb dK_answerFault_59 rfl ?_
    have hl := lv_sub hl [] rfl
    exact b67 _ _ _ _ hE hl hP hB hS
  have b62 : ∀ (H : Heap) (locs : List Loc) (ls : Array Slot) (σ : St) (x1 : Int32), k_answerFault σ0 = k_answerFault_62 σ x1 → lv_has ls 2 [(0, .ref (q 0)), (1, .int x1)] → va_P D vwCl (wsK q cA σ) H → KB σ → va_S (KA q) s.heap H locs → W p l e (headSpec wsK_answerFault { frames := 4, cells := 0, slots := 0, locals := 87 }).room s m ([.ref (q 0)] : List Value).toArray below meth c H locs 0 0 (MQ below (va_Qv (fun u => u = k_answerFault σ0) (KPost D q cA) (KA q)) ([.ref (q 0)] : List Value).toArray s 0 0 (KA q)) (F0 m 62 ls []) := by
    intro H locs ls σ x1 hE hl hP hB hS
    refine lv_aload_n hx hb dK_answerFault_62 rfl (lv_at hl 0 rfl) ?_
    refine lv_iload_n hx hb dK_answerFault_63 rfl (lv_at hl 1 rfl) ?_
    refine kcallv (rest := []) ⟨hx, hb, hml, hown, hts⟩ hC hP hB hS (c_k_take l D q cA tN σ x1) (cwV 1 hts gK_124 rfl rfl rfl hdK_take ⟨Nat.le_of_ble_eq_true rfl, Nat.le_of_ble_eq_true rfl⟩) (krv_0 hC hP) rfl hl.1 rfl (Nat.le_of_ble_eq_true rfl) dK_answerFault_64 (fun σ7 H locs e7 hP hB hS => ?_)
    have hE := hE.trans (bd_e e7)
    have hl := lv_sub hl [] rfl
    exact b67 _ _ _ _ hE hl hP hB hS
  have b26 : ∀ (H : Heap) (locs : List Loc) (ls : Array Slot) (σ : St) (y0 : Int32), k_answerFault σ0 = k_answerFault_26 σ y0 → lv_has ls 2 [(0, .ref (q 0))] → va_P D vwCl (wsK q cA σ) H → KB σ → va_S (KA q) s.heap H locs → W p l e (headSpec wsK_answerFault { frames := 4, cells := 0, slots := 0, locals := 87 }).room s m ([.ref (q 0)] : List Value).toArray below meth c H locs 0 0 (MQ below (va_Qv (fun u => u = k_answerFault σ0) (KPost D q cA) (KA q)) ([.ref (q 0)] : List Value).toArray s 0 0 (KA q)) (F0 m 26 ls [.int y0]) := by
    intro H locs ls σ y0 hE hl hP hB hS
    refine lv_istore_n (lv' := [(1, .int y0), (0, .ref (q 0))]) hx hb dK_answerFault_26 rfl hl (by decide) rfl (fun ls hl => ?_)
    refine lv_aload_n hx hb dK_answerFault_27 rfl (lv_at hl 1 rfl) ?_
    refine kget_0_5 hx hb hts inK hown hC hP (hts _ wK_f28) dK_answerFault_28 ?_
    refine kget_6_6 hx hb hts inQ hown hC hP (hts _ wK_f73) dK_answerFault_31 ?_
    refine lv_iconst (v := 1) hx hb dK_answerFault_34 (by decide) ?_
    refine lv_icmp_eq (tgt := 54) hx hb dK_answerFault_35 rfl (fun h4 => ?_) (fun h4 => ?_)
    · have hE := hE.trans (if_pos h4)
      have hl := lv_sub hl [1] rfl
      exact b54 _ _ _ _ hE hl hP hB hS
    · have hE := hE.trans (if_neg h4)
      refine lv_aload_n hx hb dK_answerFault_38 rfl (lv_at hl 1 rfl) ?_
      refine kget_0_5 hx hb hts inK hown hC hP (hts _ wK_f28) dK_answerFault_39 ?_
      refine kget_6_6 hx hb hts inQ hown hC hP (hts _ wK_f73) dK_answerFault_42 ?_
      refine lv_iconst (v := 2) hx hb dK_answerFault_45 (by decide) ?_
      refine lv_icmp_ne (tgt := 62) hx hb dK_answerFault_46 rfl (fun h6 => ?_) (fun h6 => ?_)
      · have hE := hE.trans (if_neg h6)
        have hl := lv_sub hl [1, 0] rfl
        exact b62 _ _ _ _ y0 hE hl hP hB hS
      · have hE := hE.trans (if_pos h6)
        refine lv_iload_n hx hb dK_answerFault_49 rfl (lv_at hl 0 rfl) ?_
        refine lv_iconst (v := 2) hx hb dK_answerFault_50 (by decide) ?_
        refine lv_icmp_ne (tgt := 62) hx hb dK_answerFault_51 rfl (fun h8 => ?_) (fun h8 => ?_)
        · have hE := hE.trans (if_neg h8)
          have hl := lv_sub hl [1, 0] rfl
          exact b62 _ _ _ _ y0 hE hl hP hB hS
        · have hE := hE.trans (if_pos h8)
          have hl := lv_sub hl [1] rfl
          exact b54 _ _ _ _ hE hl hP hB hS
  refine lv_aload_n hx hb dK_answerFault_0 rfl (lv_at hl 0 rfl) ?_
  refine kget_0_5 hx hb hts inK hown hC hP (hts _ wK_f28) dK_answerFault_1 ?_
  refine lv_aload_n hx hb dK_answerFault_4 rfl (lv_at hl 0 rfl) ?_
  refine kget_0_6 hx hb hts inK hown hC hP (hts _ wK_f32) dK_answerFault_5 ?_
  refine kcallv (rest := []) ⟨hx, hb, hml, hown, hts⟩ hC hP hB hS (c_k_copy_67 l D q cA tN σ0) (cwV 1 hts gK_97 rfl rfl rfl hdQ_copy ⟨Nat.le_of_ble_eq_true rfl, Nat.le_of_ble_eq_true rfl⟩) (krv_6 hC hP) rfl hl.1 rfl (Nat.le_of_ble_eq_true rfl) dK_answerFault_8 (fun σ1 H locs e1 hP hB hS => ?_)
  have hE := hE.trans (bd_e e1)
  refine lv_aload_n hx hb dK_answerFault_11 rfl (lv_at hl 0 rfl) ?_
  refine kget_0_7 hx hb hts inK hown hC hP (hts _ wK_f35) dK_answerFault_12 ?_
  have z2 : zb (σ1 0 7) := KB_0_7 hB
  refine lv_if_eq (tgt := 25) hx hb dK_answerFault_15 rfl (fun h3 => ?_) (fun h3 => ?_)
  · have hE := hE.trans (if_pos h3)
    refine lv_iconst (v := 1) hx hb dK_answerFault_25 (by decide) ?_
    exact b26 _ _ _ _ 1 hE hl hP hB hS
  · have hE := hE.trans (if_neg h3)
    refine lv_aload_n hx hb dK_answerFault_18 rfl (lv_at hl 0 rfl) ?_
    refine kget_0_14 hx hb hts inK hown hC hP (hts _ wK_f101) dK_answerFault_19 ?_
    refine lv_goto (tgt := 26) hx hb dK_answerFault_22 rfl ?_
    exact b26 _ _ _ _ (σ1 0 14) hE hl hP hB hS
