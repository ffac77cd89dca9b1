set_option maxRecDepth 100000 in
set_option maxHeartbeats 4000000 in
theorem c_k_region (l : Launch) (D : va_G) (q : Nat → Nat) (cA : ClassId) (tN : Nat) (σ0 : St) (a1 : Int32) (a2 : Int32) (a3 : Int32) (a4 : Int32) : Met l yK_region wsK_region { frames := 1, cells := 0, slots := 0, locals := 24 } (va_Pc [.ref (q 0), .int a1, .int a2, .int a3, .int a4] (KPre D q cA tN σ0)) (va_Qi (fun r u => (u, r) = k_region σ0 a1 a2 a3 a4 ∧ zb r) (KPost D q cA) (KA q)) 0 0 (KA q) := by
  refine Met.ofW (cc := cK_region) (maxL := 6) (ret := (some .boolean)) (by decide) rfl ?_
  intro p e s m args below meth c s₁ B hml hv
  obtain ⟨rfl, hP, hB, hC⟩ := hv
  have hx := B.exec
  have hb := B.bytes
  have hr := B.returns
  have hts : ∀ w ∈ gw, w.before ([.ref (q 0), .int a1, .int a2, .int a3, .int a4] : List Value).toArray s = true := fun w h => atoms_spec (ws := wsK_region) B.pre w (List.mem_cons_of_mem _ h)
  have hown : s.vm.findClass RK = some m.cls := findClass_of_methodNamed B.named
  have hlocks := B.notSynchronized
  have hS : va_S (KA q) s.heap s.heap [] := va_S.rf
  have hl := lv_entry ([.ref (q 0), .int a1, .int a2, .int a3, .int a4]) (n := 6) (Nat.le_of_ble_eq_true rfl)
  rw [lg_entry_eq]
  generalize (lg_sl ([.ref (q 0), .int a1, .int a2, .int a3, .int a4]) ++ List.replicate (6 - (lg_sl ([.ref (q 0), .int a1, .int a2, .int a3, .int a4])).length) Slot.unset).toArray = ls at hl ⊢
  have hl : lv_has ls 6 [(0, .ref (q 0)), (1, .int a1), (2, .int a2), (3, .int a3), (4, .int a4)] := hl
  have hE : k_region σ0 a1 a2 a3 a4 = k_region σ0 a1 a2 a3 a4 := rfl
  have b63 : ∀ (f : Nat) (H : Heap) (locs : List Loc) (ls : Array Slot) (σ : St) (i : Nat), i + f = 256 → k_region σ0 a1 a2 a3 a4 = k_region_63 f σ (nI i) → lv_has ls 6 [(0, .ref (q 0)), (5, .int (nI i))] → va_P D vwCl (wsK q cA σ) H → KB σ → va_S (KA q) s.heap H locs → W p l e (headSpec wsK_region { frames := 1, cells := 0, slots := 0, locals := 24 }).room s m ([.ref (q 0), .int a1, .int a2, .int a3, .int a4] : List Value).toArray below meth c H locs 0 0 (MQ below (va_Qi (fun r u => (u, r) = k_region σ0 a1 a2 a3 a4 ∧ zb r) (KPost D q cA) (KA q)) ([.ref (q 0), .int a1, .int a2, .int a3, .int a4] : List Value).toArray s 0 0 (KA q)) (F0 m 63 ls []) := by
    intro f
    induction f with
    | zero =>
      intro H locs ls σ i hi hE hl hP hB hS
      refine lv_iload hx hb dK_region_63 (lv_at hl 1 rfl) ?_
      refine lv_sipush (v := 256) hx hb dK_region_65 (by decide) ?_
      refine lv_icmp_ge (tgt := 90) hx hb dK_region_68 rfl (fun _ => ?_) (fun h => absurd (nI_le (a := 256) (b := i) (by omega) (by omega)) h)
      refine lv_iconst (v := 1) hx hb dK_region_90 (by decide) ?_
      exact W.zret (v := 1) hx hb hr (zb_n (by decide)).1 (fun t ht hW => ⟨⟨1, σ, rfl, ⟨hE.symm, (by decide)⟩, ⟨by rw [ht]; exact hP, hB⟩⟩, hS.F ht⟩) hS.2.2 dK_region_91
    | succ f ih =>
      intro H locs ls σ i hi hE hl hP hB hS
      refine lv_iload hx hb dK_region_63 (lv_at hl 1 rfl) ?_
      refine lv_sipush (v := 256) hx hb dK_region_65 (by decide) ?_
      refine lv_icmp_ge (tgt := 90) hx hb dK_region_68 rfl (fun h => absurd h (nI_ge (a := i) (b := 256) (by omega) (by decide))) (fun _ => ?_)
      refine lv_aload_n hx hb dK_region_71 rfl (lv_at hl 0 rfl) ?_
      refine kget_0_1 hx hb hts inK hown hC hP (hts _ wK_f13) dK_region_72 ?_
      refine lv_iload hx hb dK_region_75 (lv_at hl 1 rfl) ?_
      refine lv_aload_n hx hb dK_region_77 rfl (lv_at hl 0 rfl) ?_
      refine lv_iload hx hb dK_region_78 (lv_at hl 1 rfl) ?_
      refine kcalli (rest := [.int (nI i), .ref (q 2)]) ⟨hx, hb, hml, hown, hts⟩ hC hP hB hS (c_k_kindByRegions l D q cA tN σ (nI i)) (cwV 1 hts gK_44 rfl rfl rfl hdK_kindByRegions ⟨Nat.le_of_ble_eq_true rfl, Nat.le_of_ble_eq_true rfl⟩) (krv_0 hC hP) rfl hl.1 rfl (Nat.le_of_ble_eq_true rfl) dK_region_80 (fun σ1 v2 H locs e1 hP hB hS => ?_)
      have hE := hE.trans (bd2_e e1)
      refine kast_2 hx hb hC hP hS (vp_in_nI (by omega) (by decide)) dK_region_83 (fun σ3 H locs e3 hP hS => ?_)
      have hE := hE.trans (bd_e e3)
      have hB : KB σ3 := by rw [e3]; exact hB
      refine lv_iinc (k := 1) (v := nI (i + 1)) (lv' := [(5, .int (nI (i + 1))), (0, .ref (q 0))]) hx hb dK_region_84 hl rfl (nI_1 i) (by decide) rfl (fun ls hl => ?_)
      refine lv_goto (tgt := 63) hx hb dK_region_87 rfl ?_
      have hl := lv_sub hl [1, 0] rfl
      have hE := hE.trans (show k_region_63 f σ3 (nI i + 1) = k_region_63 f σ3 (nI (i + 1)) by rw [nI_1])
      exact ih _ _ _ _ (i + 1) (by omega) hE hl hP hB hS
  have b20 : ∀ (H : Heap) (locs : List Loc) (ls : Array Slot) (σ : St), k_region σ0 a1 a2 a3 a4 = (σ, 0) → va_P D vwCl (wsK q cA σ) H → KB σ → va_S (KA q) s.heap H locs → W p l e (headSpec wsK_region { frames := 1, cells := 0, slots := 0, locals := 24 }).room s m ([.ref (q 0), .int a1, .int a2, .int a3, .int a4] : List Value).toArray below meth c H locs 0 0 (MQ below (va_Qi (fun r u => (u, r) = k_region σ0 a1 a2 a3 a4 ∧ zb r) (KPost D q cA) (KA q)) ([.ref (q 0), .int a1, .int a2, .int a3, .int a4] : List Value).toArray s 0 0 (KA q)) (F0 m 20 ls []) := by
    intro H locs ls σ hE hP hB hS
    refine lv_iconst (v := 0) hx hb dK_region_20 (by decide) ?_
    exact W.zret (v := 0) hx hb hr (zb_n (by decide)).1 (fun t ht hW => ⟨⟨0, σ, rfl, ⟨hE.symm, (by decide)⟩, ⟨by rw [ht]; exact hP, hB⟩⟩, hS.F ht⟩) hS.2.2 dK_region_21
  have b36 : ∀ (H : Heap) (locs : List Loc) (ls : Array Slot) (σ : St), k_region σ0 a1 a2 a3 a4 = (σ, 0) → va_P D vwCl (wsK q cA σ) H → KB σ → va_S (KA q) s.heap H locs → W p l e (headSpec wsK_region { frames := 1, cells := 0, slots := 0, locals := 24 }).room s m ([.ref (q 0), .int a1, .int a2, .int a3, .int a4] : List Value).toArray below meth c H locs 0 0 (MQ below (va_Qi (fun r u => (u, r) = k_region σ0 a1 a2 a3 a4 ∧ zb r) (KPost D q cA) (KA q)) ([.ref (q 0), .int a1, .int a2, .int a3, .int a4] : List Value).toArray s 0 0 (KA q)) (F0 m 36 ls []) := by
    intro H locs ls σ hE hP hB hS
    refine lv_iconst (v := 0) hx hb dK_region_36 (by decide) ?_
    exact W.zret (v := 0) hx hb hr (zb_n (by decide)).1 (fun t ht hW => ⟨⟨0, σ, rfl, ⟨hE.symm, (by decide)⟩, ⟨by rw [ht]; exact hP, hB⟩⟩, hS.F ht⟩) hS.2.2 dK_region_37
  refine lv_iload_n hx hb dK_region_0 rfl (lv_at hl 1 rfl) ?_
  refine lv_if_lt (tgt := 20) hx hb dK_region_1 rfl (fun h => b20 _ _ _ _ (hE.trans (if_pos h)) hP hB hS) (fun h1 => ?_)
  have hE := hE.trans (if_neg h1)
  refine lv_iload_n hx hb dK_region_4 rfl (lv_at hl 1 rfl) ?_
  refine lv_iconst (v := 4) hx hb dK_region_5 (by decide) ?_
  refine lv_icmp_ge (tgt := 20) hx hb dK_region_6 rfl (fun h => b20 _ _ _ _ (hE.trans (if_pos h)) hP hB hS) (fun h2 => ?_)
  have hE := hE.trans (if_neg h2)
  refine lv_iload hx hb dK_region_9 (lv_at hl 4 rfl) ?_
  refine lv_if_lt (tgt := 20) hx hb dK_region_11 rfl (fun h => b20 _ _ _ _ (hE.trans (if_pos h)) hP hB hS) (fun h3 => ?_)
  have hE := hE.trans (if_neg h3)
  refine lv_iload hx hb dK_region_14 (lv_at hl 4 rfl) ?_
  refine lv_iconst (v := 2) hx hb dK_region_16 (by decide) ?_
  refine lv_icmp_le (tgt := 22) hx hb dK_region_17 rfl (fun h4 => ?_) (fun h => b20 _ _ _ _ (hE.trans (if_neg h)) hP hB hS)
  have hE := hE.trans (if_pos h4)
  refine lv_iload_n hx hb dK_region_22 rfl (lv_at hl 2 rfl) ?_
  refine kscalli (rest := []) ⟨hx, hb, hml, hown, hts⟩ hC hP hB hS (c_k_isAddress l D q cA tN σ0 a2) (va_cwS 1 hts gK_40 rfl rfl rfl hdK_isAddress ⟨Nat.le_of_ble_eq_true rfl, Nat.le_of_ble_eq_true rfl⟩) rfl hl.1 rfl (Nat.le_of_ble_eq_true rfl) dK_region_23 (fun σ5 v6 H locs e5 hP hB hS => ?_)
  have hE := hE.trans (bd2_e e5.1)
  refine lv_if_eq (tgt := 36) hx hb dK_region_26 rfl (fun h => b36 _ _ _ _ (hE.trans (if_pos h)) hP hB hS) (fun h5 => ?_)
  have hE := hE.trans (if_neg h5)
  refine lv_iload_n hx hb dK_region_29 rfl (lv_at hl 3 rfl) ?_
  refine kscalli (rest := []) ⟨hx, hb, hml, hown, hts⟩ hC hP hB hS (c_k_isAddress l D q cA tN σ5 a3) (va_cwS 1 hts gK_40 rfl rfl rfl hdK_isAddress ⟨Nat.le_of_ble_eq_true rfl, Nat.le_of_ble_eq_true rfl⟩) rfl hl.1 rfl (Nat.le_of_ble_eq_true rfl) dK_region_30 (fun σ8 v9 H locs e8 hP hB hS => ?_)
  have hE := hE.trans (bd2_e e8.1)
  refine lv_if_ne (tgt := 38) hx hb dK_region_33 rfl (fun h6 => ?_) (fun h => b36 _ _ _ _ (hE.trans (if_pos h)) hP hB hS)
  have hE := hE.trans (if_neg h6)
  refine lv_aload_n hx hb dK_region_38 rfl (lv_at hl 0 rfl) ?_
  refine kget_0_2 hx hb hts inK hown hC hP (hts _ wK_f16) dK_region_39 ?_
  refine lv_iload_n hx hb dK_region_42 rfl (lv_at hl 1 rfl) ?_
  refine lv_iload_n hx hb dK_region_43 rfl (lv_at hl 2 rfl) ?_
  refine kast_3 hx hb hC hP hS (vin_nge h1 h2 (by decide)) dK_region_44 (fun σ11 H locs e11 hP hS => ?_)
  have hE := hE.trans (bd_e e11)
  have hB : KB σ11 := by rw [e11]; exact hB
  refine lv_aload_n hx hb dK_region_45 rfl (lv_at hl 0 rfl) ?_
  refine kget_0_3 hx hb hts inK hown hC hP (hts _ wK_f19) dK_region_46 ?_
  refine lv_iload_n hx hb dK_region_49 rfl (lv_at hl 1 rfl) ?_
  refine lv_iload_n hx hb dK_region_50 rfl (lv_at hl 3 rfl) ?_
  refine kast_4 hx hb hC hP hS (vin_nge h1 h2 (by decide)) dK_region_51 (fun σ12 H locs e12 hP hS => ?_)
  have hE := hE.trans (bd_e e12)
  have hB : KB σ12 := by rw [e12]; exact hB
  refine lv_aload_n hx hb dK_region_52 rfl (lv_at hl 0 rfl) ?_
  refine kget_0_4 hx hb hts inK hown hC hP (hts _ wK_f22) dK_region_53 ?_
  refine lv_iload_n hx hb dK_region_56 rfl (lv_at hl 1 rfl) ?_
  refine lv_iload hx hb dK_region_57 (lv_at hl 4 rfl) ?_
  refine kast_5 hx hb hC hP hS (vin_nge h1 h2 (by decide)) dK_region_59 (fun σ13 H locs e13 hP hS => ?_)
  have hE := hE.trans (bd_e e13)
  have hB : KB σ13 := by rw [e13]; exact hB
  refine lv_iconst (v := 0) hx hb dK_region_60 (by decide) ?_
  refine lv_istore (lv' := [(5, .int 0), (0, .ref (q 0)), (1, .int a1), (2, .int a2), (3, .int a3), (4, .int a4)]) hx hb dK_region_61 hl (by decide) rfl (fun ls hl => ?_)
  have hl := lv_sub hl [1, 0] rfl
  exact b63 256 _ _ _ _ 0 rfl hE hl hP hB hS
set_option maxRecDepth 100000 in
set_option maxHeartbeats 4000000 in
theorem c_k_run (l : Launch) (D : va_G) (q : Nat → Nat) (cA : ClassId) (tN : Nat) (σ0 : St) (a1 : Int32) (hO : ∀ j, actOK (itr k_step j σ0)) : Met l yK_run wsK_run { frames := 6, cells := 0, slots := 0, locals := 130 } (va_Pc [.ref (q 0), .int a1] (KPre D q cA tN σ0)) (va_Qi (fun r u => (u, r) = k_run σ0 a1) (KPost D q cA) (KA q)) 0 0 (KA q) := by
  refine Met.ofW (cc := cK_run) (maxL := 3) (ret := (some .int)) (by decide) rfl ?_
  intro p e s m args below meth c s₁ B hml hv
  obtain ⟨rfl, hP, hB, hC⟩ := hv
  have hx := B.exec
  have hb := B.bytes
  have hr := B.returns
  have hts : ∀ w ∈ gw, w.before ([.ref (q 0), .int a1] : List Value).toArray s = true := fun w h => atoms_spec (ws := wsK_run) B.pre w (List.mem_cons_of_mem _ h)
  have hown : s.vm.findClass RK = some m.cls := findClass_of_methodNamed B.named
  have hlocks := B.notSynchronized
  have hS : va_S (KA q) s.heap s.heap [] := va_S.rf
  have hl := lv_entry ([.ref (q 0), .int a1]) (n := 3) (Nat.le_of_ble_eq_true rfl)
  rw [lg_entry_eq]
  generalize (lg_sl ([.ref (q 0), .int a1]) ++ List.replicate (3 - (lg_sl ([.ref (q 0), .int a1])).length) Slot.unset).toArray = ls at hl ⊢
  have hl : lv_has ls 3 [(0, .ref (q 0)), (1, .int a1)] := hl
  have hE : k_run σ0 a1 = k_run σ0 a1 := rfl
  have b11 : ∀ (ls : Array Slot), k_run σ0 a1 = (σ0, (-1)) → W p l e (headSpec wsK_run { frames := 6, cells := 0, slots := 0, locals := 130 }).room s m ([.ref (q 0), .int a1] : List Value).toArray below meth c s.heap [] 0 0 (MQ below (va_Qi (fun r u => (u, r) = k_run σ0 a1) (KPost D q cA) (KA q)) ([.ref (q 0), .int a1] : List Value).toArray s 0 0 (KA q)) (F0 m 11 ls []) := by
    intro ls hE
    refine lv_iconst (v := (-1)) hx hb dK_run_11 (by decide) ?_
    exact W.iret (v := (-1)) hx hb hr (fun t ht hW => ⟨⟨(-1), σ0, rfl, (hE).symm, ⟨by rw [ht]; exact hP, hB⟩⟩, hS.F ht⟩) hS.2.2 dK_run_12
  refine lv_iload_n hx hb dK_run_0 rfl (lv_at hl 1 rfl) ?_
  refine lv_if_lt (tgt := 11) hx hb dK_run_1 rfl (fun h => b11 _ (hE.trans (if_pos h))) (fun h1 => ?_)
  have hE := hE.trans (if_neg h1)
  refine lv_iload_n hx hb dK_run_4 rfl (lv_at hl 1 rfl) ?_
  refine lv_sipush (v := 200) hx hb dK_run_5 (by decide) ?_
  refine lv_icmp_le (tgt := 13) hx hb dK_run_8 rfl (fun h2 => ?_) (fun h => b11 _ (hE.trans (if_neg h)))
  have hE := hE.trans (if_pos h2)
  clear b11
  obtain ⟨n, hn, e1⟩ := nI_of2 (M := 200) (n := 200) (by decide) h1 h2
  have hE := hE.trans (show k_run_15 (ix a1) σ0 0 = k_run_15 n σ0 (nI 0) by rw [e1]; exact congrArg (fun z => k_run_15 z σ0 0) (nI_clamp (by omega)))
  have b15 : ∀ (f : Nat) (H : Heap) (locs : List Loc) (ls : Array Slot) (σ : St) (i : Nat), i + f = n → (∀ j, actOK (itr k_step j σ)) → k_run σ0 a1 = k_run_15 f σ (nI i) → lv_has ls 3 [(0, .ref (q 0)), (1, .int a1), (2, .int (nI i))] → va_P D vwCl (wsK q cA σ) H → KB σ → va_S (KA q) s.heap H locs → W p l e (headSpec wsK_run { frames := 6, cells := 0, slots := 0, locals := 130 }).room s m ([.ref (q 0), .int a1] : List Value).toArray below meth c H locs 0 0 (MQ below (va_Qi (fun r u => (u, r) = k_run σ0 a1) (KPost D q cA) (KA q)) ([.ref (q 0), .int a1] : List Value).toArray s 0 0 (KA q)) (F0 m 15 ls []) := by
    intro f
    induction f with
    | zero =>
      intro H locs ls σ i hi hO hE hl hP hB hS
      refine lv_iload_n hx hb dK_run_15 rfl (lv_at hl 2 rfl) ?_
      refine lv_iload_n hx hb dK_run_16 rfl (lv_at hl 1 rfl) ?_
      refine lv_icmp_ge (tgt := 37) hx hb dK_run_17 rfl (fun _ => ?_) (fun h => absurd (show a1 ≤ nI i by rw [e1]; exact nI_le (by omega) (by omega)) h)
      refine lv_iload_n hx hb dK_run_37 rfl (lv_at hl 2 rfl) ?_
      exact W.iret (v := (nI i)) hx hb hr (fun t ht hW => ⟨⟨(nI i), σ, rfl, (hE).symm, ⟨by rw [ht]; exact hP, hB⟩⟩, hS.F ht⟩) hS.2.2 dK_run_38
    | succ f ih =>
      intro H locs ls σ i hi hO hE hl hP hB hS
      refine lv_iload_n hx hb dK_run_15 rfl (lv_at hl 2 rfl) ?_
      refine lv_iload_n hx hb dK_run_16 rfl (lv_at hl 1 rfl) ?_
      refine lv_icmp_ge (tgt := 37) hx hb dK_run_17 rfl (fun h => absurd h (show ¬ a1 ≤ nI i by rw [e1]; exact nI_ge (by omega) (by omega))) (fun _ => ?_)
      refine lv_aload_n hx hb dK_run_20 rfl (lv_at hl 0 rfl) ?_
      refine kget_0_11 hx hb hts inK hown hC hP (hts _ wK_f76) dK_run_21 ?_
      refine lv_if_ne (tgt := 37) hx hb dK_run_24 rfl (fun h => ?_) (fun h => ?_)
      · have hE := hE.trans (if_neg h)
        refine lv_iload_n hx hb dK_run_37 rfl (lv_at hl 2 rfl) ?_
        exact W.iret (v := (nI i)) hx hb hr (fun t ht hW => ⟨⟨(nI i), σ, rfl, (hE).symm, ⟨by rw [ht]; exact hP, hB⟩⟩, hS.F ht⟩) hS.2.2 dK_run_38
      have hE := hE.trans (if_pos h)
      refine lv_aload_n hx hb dK_run_27 rfl (lv_at hl 0 rfl) ?_
      refine kcallv (rest := []) ⟨hx, hb, hml, hown, hts⟩ hC hP hB hS (c_k_step l D q cA tN σ (hO 0)) (cwV 0 hts gK_85 rfl rfl rfl hdK_step ⟨Nat.le_of_ble_eq_true rfl, Nat.le_of_ble_eq_true rfl⟩) (krv_0 hC hP) rfl hl.1 rfl (Nat.le_of_ble_eq_true rfl) dK_run_28 (fun σ1 H locs e3 hP hB hS => ?_)
      have hE := hE.trans (bd_e e3)
      refine lv_iinc (k := 2) (v := nI (i + 1)) (lv' := [(2, .int (nI (i + 1))), (0, .ref (q 0)), (1, .int a1)]) hx hb dK_run_31 hl rfl (nI_1 i) (by decide) rfl (fun ls hl => ?_)
      refine lv_goto (tgt := 15) hx hb dK_run_34 rfl ?_
      have hl := lv_sub hl [1, 2, 0] rfl
      have hE := hE.trans (show k_run_15 f σ1 (nI i + 1) = k_run_15 f σ1 (nI (i + 1)) by rw [nI_1])
      exact ih _ _ _ _ (i + 1) (by omega) (fun j => by rw [e3]; exact hO (j + 1)) hE hl hP hB hS
  refine lv_iconst (v := 0) hx hb dK_run_13 (by decide) ?_
  refine lv_istore_n (lv' := [(2, .int 0), (0, .ref (q 0)), (1, .int a1)]) hx hb dK_run_14 rfl hl (by decide) rfl (fun ls hl => ?_)
  have hl := lv_sub hl [1, 2, 0] rfl
  exact b15 n _ _ _ _ 0 (by omega) hO hE hl hP hB hS
set_option maxRecDepth 100000 in
set_option maxHeartbeats 4000000 in
theorem c_m_run (l : Launch) (D : va_G) (q : Nat → Nat) (cA : ClassId) (σ0 : St) (a1 : Int32) (hO : ∀ j, pcOK (itr m_step j σ0)) : Met l yM_run wsM_run { frames := 9, cells := 0, slots := 0, locals := 208 } (va_Pc [.ref (q 0), .int a1] (MPre D q cA σ0)) (va_Qi (fun r u => (u, r) = m_run σ0 a1) (MPost D q cA) (MA q)) 0 0 (MA q) := by
  refine Met.ofW (cc := cM_run) (maxL := 3) (ret := (some .int)) (by decide) rfl ?_
  intro p e s m args below meth c s₁ B hml hv
  obtain ⟨rfl, hP, hB, hC⟩ := hv
  have hx := B.exec
  have hb := B.bytes
  have hr := B.returns
  have hts : ∀ w ∈ gw, w.before ([.ref (q 0), .int a1] : List Value).toArray s = true := fun w h => atoms_spec (ws := wsM_run) B.pre w (List.mem_cons_of_mem _ h)
  have hown : s.vm.findClass RM = some m.cls := findClass_of_methodNamed B.named
  have hlocks := B.notSynchronized
  have hS : va_S (MA q) s.heap s.heap [] := va_S.rf
  have hl := lv_entry ([.ref (q 0), .int a1]) (n := 3) (Nat.le_of_ble_eq_true rfl)
  rw [lg_entry_eq]
  generalize (lg_sl ([.ref (q 0), .int a1]) ++ List.replicate (3 - (lg_sl ([.ref (q 0), .int a1])).length) Slot.unset).toArray = ls at hl ⊢
  have hl : lv_has ls 3 [(0, .ref (q 0)), (1, .int a1)] := hl
  have hE : m_run σ0 a1 = m_run σ0 a1 := rfl
  have b11 : ∀ (ls : Array Slot), m_run σ0 a1 = (σ0, (-1)) → W p l e (headSpec wsM_run { frames := 9, cells := 0, slots := 0, locals := 208 }).room s m ([.ref (q 0), .int a1] : List Value).toArray below meth c s.heap [] 0 0 (MQ below (va_Qi (fun r u => (u, r) = m_run σ0 a1) (MPost D q cA) (MA q)) ([.ref (q 0), .int a1] : List Value).toArray s 0 0 (MA q)) (F0 m 11 ls []) := by
    intro ls hE
    refine lv_iconst (v := (-1)) hx hb dM_run_11 (by decide) ?_
    exact W.iret (v := (-1)) hx hb hr (fun t ht hW => ⟨⟨(-1), σ0, rfl, (hE).symm, ⟨by rw [ht]; exact hP, hB⟩⟩, hS.F ht⟩) hS.2.2 dM_run_12
  refine lv_iload_n hx hb dM_run_0 rfl (lv_at hl 1 rfl) ?_
  refine lv_if_lt (tgt := 11) hx hb dM_run_1 rfl (fun h => b11 _ (hE.trans (if_pos h))) (fun h1 => ?_)
  have hE := hE.trans (if_neg h1)
  refine lv_iload_n hx hb dM_run_4 rfl (lv_at hl 1 rfl) ?_
  refine lv_sipush (v := 200) hx hb dM_run_5 (by decide) ?_
  refine lv_icmp_le (tgt := 13) hx hb dM_run_8 rfl (fun h2 => ?_) (fun h => b11 _ (hE.trans (if_neg h)))
  have hE := hE.trans (if_pos h2)
  clear b11
  obtain ⟨n, hn, e1⟩ := nI_of2 (M := 200) (n := 200) (by decide) h1 h2
  have hE := hE.trans (show m_run_15 (ix a1) σ0 0 = m_run_15 n σ0 (nI 0) by rw [e1]; exact congrArg (fun z => m_run_15 z σ0 0) (nI_clamp (by omega)))
  have b15 : ∀ (f : Nat) (H : Heap) (locs : List Loc) (ls : Array Slot) (σ : St) (i : Nat), i + f = n → (∀ j, pcOK (itr m_step j σ)) → m_run σ0 a1 = m_run_15 f σ (nI i) → lv_has ls 3 [(0, .ref (q 0)), (1, .int a1), (2, .int (nI i))] → va_P D vwCl (wsM q cA σ) H → MB σ → va_S (MA q) s.heap H locs → W p l e (headSpec wsM_run { frames := 9, cells := 0, slots := 0, locals := 208 }).room s m ([.ref (q 0), .int a1] : List Value).toArray below meth c H locs 0 0 (MQ below (va_Qi (fun r u => (u, r) = m_run σ0 a1) (MPost D q cA) (MA q)) ([.ref (q 0), .int a1] : List Value).toArray s 0 0 (MA q)) (F0 m 15 ls []) := by
    intro f
    induction f with
    | zero =>
      intro H locs ls σ i hi hO hE hl hP hB hS
      refine lv_iload_n hx hb dM_run_15 rfl (lv_at hl 2 rfl) ?_
      refine lv_iload_n hx hb dM_run_16 rfl (lv_at hl 1 rfl) ?_
      refine lv_icmp_ge (tgt := 37) hx hb dM_run_17 rfl (fun _ => ?_) (fun h => absurd (show a1 ≤ nI i by rw [e1]; exact nI_le (by omega) (by omega)) h)
      refine lv_iload_n hx hb dM_run_37 rfl (lv_at hl 2 rfl) ?_
      exact W.iret (v := (nI i)) hx hb hr (fun t ht hW => ⟨⟨(nI i), σ, rfl, (hE).symm, ⟨by rw [ht]; exact hP, hB⟩⟩, hS.F ht⟩) hS.2.2 dM_run_38
    | succ f ih =>
      intro H locs ls σ i hi hO hE hl hP hB hS
      refine lv_iload_n hx hb dM_run_15 rfl (lv_at hl 2 rfl) ?_
      refine lv_iload_n hx hb dM_run_16 rfl (lv_at hl 1 rfl) ?_
      refine lv_icmp_ge (tgt := 37) hx hb dM_run_17 rfl (fun h => absurd h (show ¬ a1 ≤ nI i by rw [e1]; exact nI_ge (by omega) (by omega))) (fun _ => ?_)
      refine lv_aload_n hx hb dM_run_20 rfl (lv_at hl 0 rfl) ?_
      refine mget_0_11 hx hb hts inM hown hC hP (hts _ wM_f49) dM_run_21 ?_
      refine lv_if_ne (tgt := 37) hx hb dM_run_24 rfl (fun h => ?_) (fun h => ?_)
      · have hE := hE.trans (if_neg h)
        refine lv_iload_n hx hb dM_run_37 rfl (lv_at hl 2 rfl) ?_
        exact W.iret (v := (nI i)) hx hb hr (fun t ht hW => ⟨⟨(nI i), σ, rfl, (hE).symm, ⟨by rw [ht]; exact hP, hB⟩⟩, hS.F ht⟩) hS.2.2 dM_run_38
      have hE := hE.trans (if_pos h)
      refine lv_aload_n hx hb dM_run_27 rfl (lv_at hl 0 rfl) ?_
      refine mcallv (rest := []) ⟨hx, hb, hml, hown, hts⟩ hC hP hB hS (c_m_step l D q cA σ (hO 0)) (cwV 0 hts gM_137 rfl rfl rfl hdM_step ⟨Nat.le_of_ble_eq_true rfl, Nat.le_of_ble_eq_true rfl⟩) (mrv_0 hC hP) rfl hl.1 rfl (Nat.le_of_ble_eq_true rfl) dM_run_28 (fun σ1 H locs e3 hP hB hS => ?_)
      have hE := hE.trans (bd_e e3)
      refine lv_iinc (k := 2) (v := nI (i + 1)) (lv' := [(2, .int (nI (i + 1))), (0, .ref (q 0)), (1, .int a1)]) hx hb dM_run_31 hl rfl (nI_1 i) (by decide) rfl (fun ls hl => ?_)
      refine lv_goto (tgt := 15) hx hb dM_run_34 rfl ?_
      have hl := lv_sub hl [1, 2, 0] rfl
      have hE := hE.trans (show m_run_15 f σ1 (nI i + 1) = m_run_15 f σ1 (nI (i + 1)) by rw [nI_1])
      exact ih _ _ _ _ (i + 1) (by omega) (fun j => by rw [e3]; exact hO (j + 1)) hE hl hP hB hS
  refine lv_iconst (v := 0) hx hb dM_run_13 (by decide) ?_
  refine lv_istore_n (lv' := [(2, .int 0), (0, .ref (q 0)), (1, .int a1)]) hx hb dM_run_14 rfl hl (by decide) rfl (fun ls hl => ?_)
  have hl := lv_sub hl [1, 2, 0] rfl
  exact b15 n _ _ _ _ 0 (by omega) hO hE hl hP hB hS
