set_option maxRecDepth 100000 in
set_option maxHeartbeats 4000000 in
theorem c_k_step (l : Launch) (D : va_G) (q : Nat → Nat) (cA : ClassId) (tN : Nat) (σ0 : St) (hact_σ0 : actOK σ0) : Met l yK_step wsK_step { frames := 5, cells := 0, slots := 0, locals := 109 } (va_Pc [.ref (q 0)] (KPre D q cA tN σ0)) (va_Qv (fun u => u = k_step σ0) (KPost D q cA) (KA q)) 0 0 (KA q) := by
  refine Met.ofW (cc := cK_step) (maxL := 2) (ret := none) (by decide) rfl ?_
  intro p e s m args below meth c s₁ B hml hv
  obtain ⟨rfl, hP, hB, hC⟩ := hv
  have hx := B.exec
  have hb := B.bytes
  have hr := B.returns
  have hts : ∀ w ∈ gw, w.before ([.ref (q 0)] : List Value).toArray s = true := fun w h => atoms_spec (ws := wsK_step) B.pre w (List.mem_cons_of_mem _ h)
  have hown : s.vm.findClass RK = some m.cls := findClass_of_methodNamed B.named
  have hlocks := B.notSynchronized
  have hS : va_S (KA q) s.heap s.heap [] := va_S.rf
  have hl := lv_entry ([.ref (q 0)]) (n := 2) (Nat.le_of_ble_eq_true rfl)
  rw [lg_entry_eq]
  generalize (lg_sl ([.ref (q 0)]) ++ List.replicate (2 - (lg_sl ([.ref (q 0)])).length) Slot.unset).toArray = ls at hl ⊢
  have hl : lv_has ls 2 [(0, .ref (q 0))] := hl
  have hE : k_step σ0 = k_step σ0 := rfl
  have b106 : ∀ (H : Heap) (locs : List Loc) (ls : Array Slot) (σ : St), k_step σ0 = k_step_106 σ → lv_has ls 2 [] → va_P D vwCl (wsK q cA σ) H → KB σ → va_S (KA q) s.heap H locs → W p l e (headSpec wsK_step { frames := 5, cells := 0, slots := 0, locals := 109 }).room s m ([.ref (q 0)] : List Value).toArray below meth c H locs 0 0 (MQ below (va_Qv (fun u => u = k_step σ0) (KPost D q cA) (KA q)) ([.ref (q 0)] : List Value).toArray s 0 0 (KA q)) (F0 m 106 ls []) := by
    intro H locs ls σ hE hl hP hB hS
    exact W.vret hx hb hr (fun t ht hW => ⟨⟨σ, rfl, hE.symm, ⟨by rw [ht]; exact hP, hB⟩⟩, hS.F ht⟩) hS.2.2 dK_step_106
  have b95 : ∀ (H : Heap) (locs : List Loc) (ls : Array Slot) (σ : St), k_step σ0 = k_step_95 σ → lv_has ls 2 [(0, .ref (q 0))] → va_P D vwCl (wsK q cA σ) H → KB σ → va_S (KA q) s.heap H locs → W p l e (headSpec wsK_step { frames := 5, cells := 0, slots := 0, locals := 109 }).room s m ([.ref (q 0)] : List Value).toArray below meth c H locs 0 0 (MQ below (va_Qv (fun u => u = k_step σ0) (KPost D q cA) (KA q)) ([.ref (q 0)] : List Value).toArray s 0 0 (KA q)) (F0 m 95 ls []) := by
    intro H locs ls σ hE hl hP hB hS
    refine lv_aload_n hx hb dK_step_95 rfl (lv_at hl 0 rfl) ?_
    refine kget_0_14 hx hb hts inK hown hC hP (hts _ wK_f101) dK_step_96 ?_
    refine lv_if_eq (tgt := 106) hx hb dK_step_99 rfl (fun h9 => ?_) (fun h9 => ?_)
    · have hE := hE.trans (if_pos h9)
      have hl := lv_sub hl [] rfl
      exact b106 _ _ _ _ hE hl hP hB hS
    · have hE := hE.trans (if_neg h9)
      refine lv_aload_n hx hb dK_step_102 rfl (lv_at hl 0 rfl) ?_
      refine kcallv (rest := []) ⟨hx, hb, hml, hown, hts⟩ hC hP hB hS (c_k_answerFault l D q cA tN σ) (cwV 0 hts gK_121 rfl rfl rfl hdK_answerFault ⟨Nat.le_of_ble_eq_true rfl, Nat.le_of_ble_eq_true rfl⟩) (krv_0 hC hP) rfl hl.1 rfl (Nat.le_of_ble_eq_true rfl) dK_step_103 (fun σ10 H locs e10 hP hB hS => ?_)
      have hE := hE.trans (bd_e e10)
      have hl := lv_sub hl [] rfl
      exact b106 _ _ _ _ hE hl hP hB hS
  have b53 : ∀ (H : Heap) (locs : List Loc) (ls : Array Slot) (σ : St) (x1 : Int32), k_step σ0 = k_step_53 σ x1 → lv_has ls 2 [(0, .ref (q 0)), (1, .int x1)] → va_P D vwCl (wsK q cA σ) H → KB σ → va_S (KA q) s.heap H locs → W p l e (headSpec wsK_step { frames := 5, cells := 0, slots := 0, locals := 109 }).room s m ([.ref (q 0)] : List Value).toArray below meth c H locs 0 0 (MQ below (va_Qv (fun u => u = k_step σ0) (KPost D q cA) (KA q)) ([.ref (q 0)] : List Value).toArray s 0 0 (KA q)) (F0 m 53 ls []) := by
    intro H locs ls σ x1 hE hl hP hB hS
    refine lv_aload_n hx hb dK_step_53 rfl (lv_at hl 0 rfl) ?_
    refine kget_0_14 hx hb hts inK hown hC hP (hts _ wK_f101) dK_step_54 ?_
    refine lv_if_ne (tgt := 95) hx hb dK_step_57 rfl (fun h8 => ?_) (fun h8 => ?_)
    · have hE := hE.trans (if_neg h8)
      have hl := lv_sub hl [0] rfl
      exact b95 _ _ _ _ hE hl hP hB hS
    · have hE := hE.trans (if_pos h8)
      refine lv_aload_n hx hb dK_step_60 rfl (lv_at hl 0 rfl) ?_
      refine lv_aload_n hx hb dK_step_61 rfl (lv_at hl 0 rfl) ?_
      refine kget_0_5 hx hb hts inK hown hC hP (hts _ wK_f28) dK_step_62 ?_
      refine kget_6_3 hx hb hts inQ hown hC hP (hts _ wK_f61) dK_step_65 ?_
      refine lv_iconst (v := 1) hx hb dK_step_68 (by decide) ?_
      refine lv_iadd hx hb dK_step_69 ?_
      refine kcallv (rest := []) ⟨hx, hb, hml, hown, hts⟩ hC hP hB hS (c_k_goTo l D q cA tN σ ((σ 6 3) + 1)) (cwV 1 hts gK_111 rfl rfl rfl hdK_goTo ⟨Nat.le_of_ble_eq_true rfl, Nat.le_of_ble_eq_true rfl⟩) (krv_0 hC hP) rfl hl.1 rfl (Nat.le_of_ble_eq_true rfl) dK_step_70 (fun σ11 H locs e11 hP hB hS => ?_)
      have hE := hE.trans (bd_e e11)
      refine lv_iload_n hx hb dK_step_73 rfl (lv_at hl 1 rfl) ?_
      refine lv_bipush (v := 12) hx hb dK_step_74 (by decide) ?_
      refine lv_ishr hx hb dK_step_76 ?_
      refine lv_bipush (v := 6) hx hb dK_step_77 (by decide) ?_
      refine lv_icmp_gt (tgt := 90) hx hb dK_step_79 rfl (fun h12 => ?_) (fun h12 => ?_)
      · have hE := hE.trans (if_pos h12)
        refine lv_aload_n hx hb dK_step_90 rfl (lv_at hl 0 rfl) ?_
        refine lv_iload_n hx hb dK_step_91 rfl (lv_at hl 1 rfl) ?_
        refine kcallv (rest := []) ⟨hx, hb, hml, hown, hts⟩ hC hP hB hS (c_k_changeFlow l D q cA tN σ11 x1) (cwV 1 hts gK_118 rfl rfl rfl hdK_changeFlow ⟨Nat.le_of_ble_eq_true rfl, Nat.le_of_ble_eq_true rfl⟩) (krv_0 hC hP) rfl hl.1 rfl (Nat.le_of_ble_eq_true rfl) dK_step_92 (fun σ13 H locs e13 hP hB hS => ?_)
        have hE := hE.trans (bd_e e13)
        have hl := lv_sub hl [0] rfl
        exact b95 _ _ _ _ hE hl hP hB hS
      · have hE := hE.trans (if_neg h12)
        refine lv_aload_n hx hb dK_step_82 rfl (lv_at hl 0 rfl) ?_
        refine lv_iload_n hx hb dK_step_83 rfl (lv_at hl 1 rfl) ?_
        refine kcallv (rest := []) ⟨hx, hb, hml, hown, hts⟩ hC hP hB hS (c_k_moveData l D q cA tN σ11 x1) (cwV 1 hts gK_115 rfl rfl rfl hdK_moveData ⟨Nat.le_of_ble_eq_true rfl, Nat.le_of_ble_eq_true rfl⟩) (krv_0 hC hP) rfl hl.1 rfl (Nat.le_of_ble_eq_true rfl) dK_step_84 (fun σ14 H locs e14 hP hB hS => ?_)
        have hE := hE.trans (bd_e e14)
        refine lv_goto (tgt := 95) hx hb dK_step_87 rfl ?_
        have hl := lv_sub hl [0] rfl
        exact b95 _ _ _ _ hE hl hP hB hS
  refine lv_aload_n hx hb dK_step_0 rfl (lv_at hl 0 rfl) ?_
  refine kcallv (rest := []) ⟨hx, hb, hml, hown, hts⟩ hC hP hB hS (c_k_takePending l D q cA tN σ0 hact_σ0) (cwV 0 hts gK_94 rfl rfl rfl hdK_takePending ⟨Nat.le_of_ble_eq_true rfl, Nat.le_of_ble_eq_true rfl⟩) (krv_0 hC hP) rfl hl.1 rfl (Nat.le_of_ble_eq_true rfl) dK_step_1 (fun σ1 H locs e1 hP hB hS => ?_)
  have hE := hE.trans (bd_e e1)
  refine lv_aload_n hx hb dK_step_4 rfl (lv_at hl 0 rfl) ?_
  refine kget_0_11 hx hb hts inK hown hC hP (hts _ wK_f76) dK_step_5 ?_
  refine lv_if_eq (tgt := 12) hx hb dK_step_8 rfl (fun h2 => ?_) (fun h2 => ?_)
  · have hE := hE.trans (if_pos h2)
    refine lv_aload_n hx hb dK_step_12 rfl (lv_at hl 0 rfl) ?_
    refine kget_0_6 hx hb hts inK hown hC hP (hts _ wK_f32) dK_step_13 ?_
    refine lv_aload_n hx hb dK_step_16 rfl (lv_at hl 0 rfl) ?_
    refine kget_0_5 hx hb hts inK hown hC hP (hts _ wK_f28) dK_step_17 ?_
    refine kcallv (rest := []) ⟨hx, hb, hml, hown, hts⟩ hC hP hB hS (c_k_copy_76 l D q cA tN σ1) (cwV 1 hts gK_97 rfl rfl rfl hdQ_copy ⟨Nat.le_of_ble_eq_true rfl, Nat.le_of_ble_eq_true rfl⟩) (krv_7 hC hP) rfl hl.1 rfl (Nat.le_of_ble_eq_true rfl) dK_step_20 (fun σ3 H locs e3 hP hB hS => ?_)
    have hE := hE.trans (bd_e e3)
    refine lv_aload_n hx hb dK_step_23 rfl (lv_at hl 0 rfl) ?_
    refine lv_iconst (v := 0) hx hb dK_step_24 (by decide) ?_
    refine kput_0_14 hx hb hts inK hown hC hP (hts _ wK_f101) hS dK_step_25 (fun σ4 H locs e4 hP hS => ?_)
    have hE := hE.trans (bd_e e4)
    have hB : KB σ4 := by rw [e4]; exact hB
    refine lv_aload_n hx hb dK_step_28 rfl (lv_at hl 0 rfl) ?_
    refine kcalli (rest := []) ⟨hx, hb, hml, hown, hts⟩ hC hP hB hS (c_k_fetch l D q cA tN σ4) (cwV 0 hts gK_104 rfl rfl rfl hdK_fetch ⟨Nat.le_of_ble_eq_true rfl, Nat.le_of_ble_eq_true rfl⟩) (krv_0 hC hP) rfl hl.1 rfl (Nat.le_of_ble_eq_true rfl) dK_step_29 (fun σ5 v6 H locs e5 hP hB hS => ?_)
    have hE := hE.trans (bd2_e e5)
    refine lv_istore_n (lv' := [(1, .int v6), (0, .ref (q 0))]) hx hb dK_step_32 rfl hl (by decide) rfl (fun ls hl => ?_)
    refine lv_aload_n hx hb dK_step_33 rfl (lv_at hl 1 rfl) ?_
    refine kget_0_14 hx hb hts inK hown hC hP (hts _ wK_f101) dK_step_34 ?_
    refine lv_if_ne (tgt := 53) hx hb dK_step_37 rfl (fun h7 => ?_) (fun h7 => ?_)
    · have hE := hE.trans (if_neg h7)
      have hl := lv_sub hl [1, 0] rfl
      exact b53 _ _ _ _ v6 hE hl hP hB hS
    · have hE := hE.trans (if_pos h7)
      refine lv_aload_n hx hb dK_step_40 rfl (lv_at hl 1 rfl) ?_
      refine lv_iload_n hx hb dK_step_41 rfl (lv_at hl 0 rfl) ?_
      refine kcalli (rest := []) ⟨hx, hb, hml, hown, hts⟩ hC hP hB hS (c_k_isUnknown l D q cA tN σ5 v6) (cwV 1 hts gK_108 rfl rfl rfl hdK_isUnknown ⟨Nat.le_of_ble_eq_true rfl, Nat.le_of_ble_eq_true rfl⟩) (krv_0 hC hP) rfl hl.1 rfl (Nat.le_of_ble_eq_true rfl) dK_step_42 (fun σ15 v16 H locs e15 hP hB hS => ?_)
      have z15 : zb v16 := e15.2
      have hE := hE.trans (bd2_e e15.1)
      refine lv_if_eq (tgt := 53) hx hb dK_step_45 rfl (fun h17 => ?_) (fun h17 => ?_)
      · have hE := hE.trans (if_pos h17)
        have hl := lv_sub hl [1, 0] rfl
        exact b53 _ _ _ _ v6 hE hl hP hB hS
      · have hE := hE.trans (if_neg h17)
        refine lv_aload_n hx hb dK_step_48 rfl (lv_at hl 1 rfl) ?_
        refine lv_iconst (v := 1) hx hb dK_step_49 (by decide) ?_
        refine kput_0_14 hx hb hts inK hown hC hP (hts _ wK_f101) hS dK_step_50 (fun σ18 H locs e18 hP hS => ?_)
        have hE := hE.trans (bd_e e18)
        have hB : KB σ18 := by rw [e18]; exact hB
        have hl := lv_sub hl [1, 0] rfl
        exact b53 _ _ _ _ v6 hE hl hP hB hS
  · have hE := hE.trans (if_neg h2)
    exact W.vret hx hb hr (fun t ht hW => ⟨⟨σ1, rfl, hE.symm, ⟨by rw [ht]; exact hP, hB⟩⟩, hS.F ht⟩) hS.2.2 dK_step_11
