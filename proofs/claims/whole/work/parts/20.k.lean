set_option maxRecDepth 100000 in
set_option maxHeartbeats 4000000 in
theorem c_k_poke (l : Launch) (D : va_G) (q : Nat → Nat) (cA : ClassId) (tN : Nat) (σ0 : St) (a1 : Int32) (a2 : Int32) : Met l yK_poke wsK_poke { frames := 0, cells := 0, slots := 0, locals := 0 } (va_Pc [.ref (q 0), .int a1, .int a2] (KPre D q cA tN σ0)) (va_Qi (fun r u => (u, r) = k_poke σ0 a1 a2) (KPost D q cA) (KA q)) 0 0 (KA q) := by
  refine Met.ofW (cc := cK_poke) (maxL := 5) (ret := (some .int)) (by decide) rfl ?_
  intro p e s m args below meth c s₁ B hml hv
  obtain ⟨rfl, hP, hB, hC⟩ := hv
  have hx := B.exec
  have hb := B.bytes
  have hr := B.returns
  have hts : ∀ w ∈ gw, w.before ([.ref (q 0), .int a1, .int a2] : List Value).toArray s = true := fun w h => atoms_spec (ws := wsK_poke) B.pre w (List.mem_cons_of_mem _ h)
  have hown : s.vm.findClass RK = some m.cls := findClass_of_methodNamed B.named
  have hlocks := B.notSynchronized
  have hS : va_S (KA q) s.heap s.heap [] := va_S.rf
  have hl := lv_entry ([.ref (q 0), .int a1, .int a2]) (n := 5) (Nat.le_of_ble_eq_true rfl)
  rw [lg_entry_eq]
  generalize (lg_sl ([.ref (q 0), .int a1, .int a2]) ++ List.replicate (5 - (lg_sl ([.ref (q 0), .int a1, .int a2])).length) Slot.unset).toArray = ls at hl ⊢
  have hl : lv_has ls 5 [(0, .ref (q 0)), (1, .int a1), (2, .int a2)] := hl
  have hE : k_poke σ0 a1 a2 = k_poke σ0 a1 a2 := rfl
  refine lv_iload_n hx hb dK_poke_0 rfl (lv_at hl 1 rfl) ?_
  refine lv_sipush (v := 255) hx hb dK_poke_1 (by decide) ?_
  refine lv_iand hx hb dK_poke_4 ?_
  refine lv_istore_n (lv' := [(3, .int (a1 &&& 255)), (0, .ref (q 0)), (1, .int a1), (2, .int a2)]) hx hb dK_poke_5 rfl hl (by decide) rfl (fun ls hl => ?_)
  refine lv_aload_n hx hb dK_poke_6 rfl (lv_at hl 1 rfl) ?_
  refine kget_0_0 hx hb hts inK hown hC hP (hts _ wK_f9) dK_poke_7 ?_
  refine lv_iload_n hx hb dK_poke_10 rfl (lv_at hl 0 rfl) ?_
  refine kald_1 hx hb hC hP (vin_m 8 (by decide) (by decide) (by decide)) dK_poke_11 ?_
  refine lv_istore (lv' := [(4, .int (σ0 1 (ix (a1 &&& 255)))), (3, .int (a1 &&& 255)), (0, .ref (q 0)), (1, .int a1), (2, .int a2)]) hx hb dK_poke_12 hl (by decide) rfl (fun ls hl => ?_)
  refine lv_aload_n hx hb dK_poke_14 rfl (lv_at hl 2 rfl) ?_
  refine kget_0_0 hx hb hts inK hown hC hP (hts _ wK_f9) dK_poke_15 ?_
  refine lv_iload_n hx hb dK_poke_18 rfl (lv_at hl 1 rfl) ?_
  refine lv_iload_n hx hb dK_poke_19 rfl (lv_at hl 4 rfl) ?_
  refine lv_ldc (v := 65535) hx hb hown (hts _ wK_c39) dK_poke_20 ?_
  refine lv_iand hx hb dK_poke_22 ?_
  refine kast_1 hx hb hC hP hS (vin_m 8 (by decide) (by decide) (by decide)) dK_poke_23 (fun σ1 H locs e1 hP hS => ?_)
  have hE := hE.trans (bd_e e1)
  have hB : KB σ1 := by rw [e1]; exact hB
  refine lv_iload hx hb dK_poke_24 (lv_at hl 0 rfl) ?_
  exact W.iret (v := (σ0 1 (ix (a1 &&& 255)))) hx hb hr (fun t ht hW => ⟨⟨(σ0 1 (ix (a1 &&& 255))), σ1, rfl, hE.symm, ⟨by rw [ht]; exact hP, hB⟩⟩, hS.F ht⟩) hS.2.2 dK_poke_26
set_option maxRecDepth 100000 in
set_option maxHeartbeats 4000000 in
theorem c_k_fill (l : Launch) (D : va_G) (q : Nat → Nat) (cA : ClassId) (tN : Nat) (σ0 : St) (a1 : Int32) (a2 : Int64) : Met l yK_fill wsK_fill { frames := 0, cells := 0, slots := 0, locals := 0 } (va_Pc [.ref (q 0), .int a1, .long a2] (KPre D q cA tN σ0)) (va_Qi (fun r u => (u, r) = k_fill σ0 a1 a2 ∧ zb r) (KPost D q cA) (KA q)) 0 0 (KA q) := by
  refine Met.ofW (cc := cK_fill) (maxL := 5) (ret := (some .boolean)) (by decide) rfl ?_
  intro p e s m args below meth c s₁ B hml hv
  obtain ⟨rfl, hP, hB, hC⟩ := hv
  have hx := B.exec
  have hb := B.bytes
  have hr := B.returns
  have hts : ∀ w ∈ gw, w.before ([.ref (q 0), .int a1, .long a2] : List Value).toArray s = true := fun w h => atoms_spec (ws := wsK_fill) B.pre w (List.mem_cons_of_mem _ h)
  have hown : s.vm.findClass RK = some m.cls := findClass_of_methodNamed B.named
  have hlocks := B.notSynchronized
  have hS : va_S (KA q) s.heap s.heap [] := va_S.rf
  have hl := lv_entry ([.ref (q 0), .int a1, .long a2]) (n := 5) (Nat.le_of_ble_eq_true rfl)
  rw [lg_entry_eq]
  generalize (lg_sl ([.ref (q 0), .int a1, .long a2]) ++ List.replicate (5 - (lg_sl ([.ref (q 0), .int a1, .long a2])).length) Slot.unset).toArray = ls at hl ⊢
  have hl : lv_has ls 5 [(0, .ref (q 0)), (1, .int a1), (2, .long a2)] := hl
  have hE : k_fill σ0 a1 a2 = k_fill σ0 a1 a2 := rfl
  have b11 : ∀ (H : Heap) (locs : List Loc) (ls : Array Slot) (σ : St), k_fill σ0 a1 a2 = k_fill_11 σ → lv_has ls 5 [] → va_P D vwCl (wsK q cA σ) H → KB σ → va_S (KA q) s.heap H locs → W p l e (headSpec wsK_fill { frames := 0, cells := 0, slots := 0, locals := 0 }).room s m ([.ref (q 0), .int a1, .long a2] : List Value).toArray below meth c H locs 0 0 (MQ below (va_Qi (fun r u => (u, r) = k_fill σ0 a1 a2 ∧ zb r) (KPost D q cA) (KA q)) ([.ref (q 0), .int a1, .long a2] : List Value).toArray s 0 0 (KA q)) (F0 m 11 ls []) := by
    intro H locs ls σ hE hl hP hB hS
    refine lv_iconst (v := 0) hx hb dK_fill_11 (by decide) ?_
    exact W.zret (v := 0) hx hb hr (zb_n (by decide)).1 (fun t ht hW => ⟨⟨0, σ, rfl, ⟨hE.symm, (by decide)⟩, ⟨by rw [ht]; exact hP, hB⟩⟩, hS.F ht⟩) hS.2.2 dK_fill_12
  have b16_4 : ∀ (H : Heap) (locs : List Loc) (ls : Array Slot) (σ : St) (x1 : Int32) (x2 : Int64), k_fill σ0 a1 a2 = k_fill_16_4 σ x1 x2 → lv_has ls 5 [(0, .ref (q 0)), (1, .int x1), (2, .long x2), (4, .int 4)] → va_P D vwCl (wsK q cA σ) H → KB σ → va_S (KA q) s.heap H locs → W p l e (headSpec wsK_fill { frames := 0, cells := 0, slots := 0, locals := 0 }).room s m ([.ref (q 0), .int a1, .long a2] : List Value).toArray below meth c H locs 0 0 (MQ below (va_Qi (fun r u => (u, r) = k_fill σ0 a1 a2 ∧ zb r) (KPost D q cA) (KA q)) ([.ref (q 0), .int a1, .long a2] : List Value).toArray s 0 0 (KA q)) (F0 m 16 ls []) := by
    intro H locs ls σ x1 x2 hE hl hP hB hS
    refine lv_iload hx hb dK_fill_16 (lv_at hl 3 rfl) ?_
    refine lv_iconst (v := 4) hx hb dK_fill_18 (by decide) ?_
    refine lv_icmp_ge (tgt := 48) hx hb dK_fill_19 rfl (fun _ => ?_) (fun h11 => absurd (by decide) h11)
    refine lv_iconst (v := 1) hx hb dK_fill_48 (by decide) ?_
    exact W.zret (v := 1) hx hb hr (zb_n (by decide)).1 (fun t ht hW => ⟨⟨1, σ, rfl, ⟨hE.symm, (by decide)⟩, ⟨by rw [ht]; exact hP, hB⟩⟩, hS.F ht⟩) hS.2.2 dK_fill_49
  have b16_3 : ∀ (H : Heap) (locs : List Loc) (ls : Array Slot) (σ : St) (x1 : Int32) (x2 : Int64), bt0 x1 252 → k_fill σ0 a1 a2 = k_fill_16_3 σ x1 x2 → lv_has ls 5 [(0, .ref (q 0)), (1, .int x1), (2, .long x2), (4, .int 3)] → va_P D vwCl (wsK q cA σ) H → KB σ → va_S (KA q) s.heap H locs → W p l e (headSpec wsK_fill { frames := 0, cells := 0, slots := 0, locals := 0 }).room s m ([.ref (q 0), .int a1, .long a2] : List Value).toArray below meth c H locs 0 0 (MQ below (va_Qi (fun r u => (u, r) = k_fill σ0 a1 a2 ∧ zb r) (KPost D q cA) (KA q)) ([.ref (q 0), .int a1, .long a2] : List Value).toArray s 0 0 (KA q)) (F0 m 16 ls []) := by
    intro H locs ls σ x1 x2 hle252_x1 hE hl hP hB hS
    refine lv_iload hx hb dK_fill_16 (lv_at hl 3 rfl) ?_
    refine lv_iconst (v := 4) hx hb dK_fill_18 (by decide) ?_
    refine lv_icmp_ge (tgt := 48) hx hb dK_fill_19 rfl (fun h9 => absurd h9 (by decide)) (fun _ => ?_)
    refine lv_aload_n hx hb dK_fill_22 rfl (lv_at hl 0 rfl) ?_
    refine kget_0_0 hx hb hts inK hown hC hP (hts _ wK_f9) dK_fill_23 ?_
    refine lv_iload_n hx hb dK_fill_26 rfl (lv_at hl 1 rfl) ?_
    refine lv_iload hx hb dK_fill_27 (lv_at hl 3 rfl) ?_
    refine lv_iadd hx hb dK_fill_29 ?_
    refine lv_lload_n hx hb dK_fill_30 rfl (lv_at hl 2 rfl) ?_
    refine lv_bipush (v := 16) hx hb dK_fill_31 (by decide) ?_
    refine lv_iload hx hb dK_fill_33 (lv_at hl 3 rfl) ?_
    refine lv_imul hx hb dK_fill_35 ?_
    refine lv_lushr (v := (x2.toUInt64 >>> (((16 * 3) : Int32).toInt64.toUInt64 &&& Int64.toUInt64 63)).toInt64) hx hb dK_fill_36 rfl ?_
    refine lv_l2i (v := ((x2.toUInt64 >>> (((16 * 3) : Int32).toInt64.toUInt64 &&& Int64.toUInt64 63)).toInt64 : Int64).toInt32) hx hb dK_fill_37 rfl ?_
    refine lv_ldc (v := 65535) hx hb hown (hts _ wK_c39) dK_fill_38 ?_
    refine lv_iand hx hb dK_fill_40 ?_
    refine kast_1 hx hb hC hP hS (vin_add hle252_x1 (by decide)) dK_fill_41 (fun σ10 H locs e10 hP hS => ?_)
    have hE := hE.trans (bd_e e10)
    have hB : KB σ10 := by rw [e10]; exact hB
    refine lv_iinc (k := 3) (v := 4) (lv' := [(4, .int 4), (0, .ref (q 0)), (1, .int x1), (2, .long x2)]) hx hb dK_fill_42 hl rfl (by decide) (by decide) rfl (fun ls hl => ?_)
    refine lv_goto (tgt := 16) hx hb dK_fill_45 rfl ?_
    have hl := lv_sub hl [1, 2, 3, 0] rfl
    exact b16_4 _ _ _ _ x1 x2 hE hl hP hB hS
  have b16_2 : ∀ (H : Heap) (locs : List Loc) (ls : Array Slot) (σ : St) (x1 : Int32) (x2 : Int64), bt0 x1 252 → k_fill σ0 a1 a2 = k_fill_16_2 σ x1 x2 → lv_has ls 5 [(0, .ref (q 0)), (1, .int x1), (2, .long x2), (4, .int 2)] → va_P D vwCl (wsK q cA σ) H → KB σ → va_S (KA q) s.heap H locs → W p l e (headSpec wsK_fill { frames := 0, cells := 0, slots := 0, locals := 0 }).room s m ([.ref (q 0), .int a1, .long a2] : List Value).toArray below meth c H locs 0 0 (MQ below (va_Qi (fun r u => (u, r) = k_fill σ0 a1 a2 ∧ zb r) (KPost D q cA) (KA q)) ([.ref (q 0), .int a1, .long a2] : List Value).toArray s 0 0 (KA q)) (F0 m 16 ls []) := by
    intro H locs ls σ x1 x2 hle252_x1 hE hl hP hB hS
    refine lv_iload hx hb dK_fill_16 (lv_at hl 3 rfl) ?_
    refine lv_iconst (v := 4) hx hb dK_fill_18 (by decide) ?_
    refine lv_icmp_ge (tgt := 48) hx hb dK_fill_19 rfl (fun h7 => absurd h7 (by decide)) (fun _ => ?_)
    refine lv_aload_n hx hb dK_fill_22 rfl (lv_at hl 0 rfl) ?_
    refine kget_0_0 hx hb hts inK hown hC hP (hts _ wK_f9) dK_fill_23 ?_
    refine lv_iload_n hx hb dK_fill_26 rfl (lv_at hl 1 rfl) ?_
    refine lv_iload hx hb dK_fill_27 (lv_at hl 3 rfl) ?_
    refine lv_iadd hx hb dK_fill_29 ?_
    refine lv_lload_n hx hb dK_fill_30 rfl (lv_at hl 2 rfl) ?_
    refine lv_bipush (v := 16) hx hb dK_fill_31 (by decide) ?_
    refine lv_iload hx hb dK_fill_33 (lv_at hl 3 rfl) ?_
    refine lv_imul hx hb dK_fill_35 ?_
    refine lv_lushr (v := (x2.toUInt64 >>> (((16 * 2) : Int32).toInt64.toUInt64 &&& Int64.toUInt64 63)).toInt64) hx hb dK_fill_36 rfl ?_
    refine lv_l2i (v := ((x2.toUInt64 >>> (((16 * 2) : Int32).toInt64.toUInt64 &&& Int64.toUInt64 63)).toInt64 : Int64).toInt32) hx hb dK_fill_37 rfl ?_
    refine lv_ldc (v := 65535) hx hb hown (hts _ wK_c39) dK_fill_38 ?_
    refine lv_iand hx hb dK_fill_40 ?_
    refine kast_1 hx hb hC hP hS (vin_add hle252_x1 (by decide)) dK_fill_41 (fun σ8 H locs e8 hP hS => ?_)
    have hE := hE.trans (bd_e e8)
    have hB : KB σ8 := by rw [e8]; exact hB
    refine lv_iinc (k := 3) (v := 3) (lv' := [(4, .int 3), (0, .ref (q 0)), (1, .int x1), (2, .long x2)]) hx hb dK_fill_42 hl rfl (by decide) (by decide) rfl (fun ls hl => ?_)
    refine lv_goto (tgt := 16) hx hb dK_fill_45 rfl ?_
    have hl := lv_sub hl [1, 2, 3, 0] rfl
    exact b16_3 _ _ _ _ x1 x2 hle252_x1 hE hl hP hB hS
  have b16_1 : ∀ (H : Heap) (locs : List Loc) (ls : Array Slot) (σ : St) (x1 : Int32) (x2 : Int64), bt0 x1 252 → k_fill σ0 a1 a2 = k_fill_16_1 σ x1 x2 → lv_has ls 5 [(0, .ref (q 0)), (1, .int x1), (2, .long x2), (4, .int 1)] → va_P D vwCl (wsK q cA σ) H → KB σ → va_S (KA q) s.heap H locs → W p l e (headSpec wsK_fill { frames := 0, cells := 0, slots := 0, locals := 0 }).room s m ([.ref (q 0), .int a1, .long a2] : List Value).toArray below meth c H locs 0 0 (MQ below (va_Qi (fun r u => (u, r) = k_fill σ0 a1 a2 ∧ zb r) (KPost D q cA) (KA q)) ([.ref (q 0), .int a1, .long a2] : List Value).toArray s 0 0 (KA q)) (F0 m 16 ls []) := by
    intro H locs ls σ x1 x2 hle252_x1 hE hl hP hB hS
    refine lv_iload hx hb dK_fill_16 (lv_at hl 3 rfl) ?_
    refine lv_iconst (v := 4) hx hb dK_fill_18 (by decide) ?_
    refine lv_icmp_ge (tgt := 48) hx hb dK_fill_19 rfl (fun h5 => absurd h5 (by decide)) (fun _ => ?_)
    refine lv_aload_n hx hb dK_fill_22 rfl (lv_at hl 0 rfl) ?_
    refine kget_0_0 hx hb hts inK hown hC hP (hts _ wK_f9) dK_fill_23 ?_
    refine lv_iload_n hx hb dK_fill_26 rfl (lv_at hl 1 rfl) ?_
    refine lv_iload hx hb dK_fill_27 (lv_at hl 3 rfl) ?_
    refine lv_iadd hx hb dK_fill_29 ?_
    refine lv_lload_n hx hb dK_fill_30 rfl (lv_at hl 2 rfl) ?_
    refine lv_bipush (v := 16) hx hb dK_fill_31 (by decide) ?_
    refine lv_iload hx hb dK_fill_33 (lv_at hl 3 rfl) ?_
    refine lv_imul hx hb dK_fill_35 ?_
    refine lv_lushr (v := (x2.toUInt64 >>> (((16 * 1) : Int32).toInt64.toUInt64 &&& Int64.toUInt64 63)).toInt64) hx hb dK_fill_36 rfl ?_
    refine lv_l2i (v := ((x2.toUInt64 >>> (((16 * 1) : Int32).toInt64.toUInt64 &&& Int64.toUInt64 63)).toInt64 : Int64).toInt32) hx hb dK_fill_37 rfl ?_
    refine lv_ldc (v := 65535) hx hb hown (hts _ wK_c39) dK_fill_38 ?_
    refine lv_iand hx hb dK_fill_40 ?_
    refine kast_1 hx hb hC hP hS (vin_add hle252_x1 (by decide)) dK_fill_41 (fun σ6 H locs e6 hP hS => ?_)
    have hE := hE.trans (bd_e e6)
    have hB : KB σ6 := by rw [e6]; exact hB
    refine lv_iinc (k := 3) (v := 2) (lv' := [(4, .int 2), (0, .ref (q 0)), (1, .int x1), (2, .long x2)]) hx hb dK_fill_42 hl rfl (by decide) (by decide) rfl (fun ls hl => ?_)
    refine lv_goto (tgt := 16) hx hb dK_fill_45 rfl ?_
    have hl := lv_sub hl [1, 2, 3, 0] rfl
    exact b16_2 _ _ _ _ x1 x2 hle252_x1 hE hl hP hB hS
  have b16_0 : ∀ (H : Heap) (locs : List Loc) (ls : Array Slot) (σ : St) (x1 : Int32) (x2 : Int64), bt0 x1 252 → k_fill σ0 a1 a2 = k_fill_16_0 σ x1 x2 → lv_has ls 5 [(0, .ref (q 0)), (1, .int x1), (2, .long x2), (4, .int 0)] → va_P D vwCl (wsK q cA σ) H → KB σ → va_S (KA q) s.heap H locs → W p l e (headSpec wsK_fill { frames := 0, cells := 0, slots := 0, locals := 0 }).room s m ([.ref (q 0), .int a1, .long a2] : List Value).toArray below meth c H locs 0 0 (MQ below (va_Qi (fun r u => (u, r) = k_fill σ0 a1 a2 ∧ zb r) (KPost D q cA) (KA q)) ([.ref (q 0), .int a1, .long a2] : List Value).toArray s 0 0 (KA q)) (F0 m 16 ls []) := by
    intro H locs ls σ x1 x2 hle252_x1 hE hl hP hB hS
    refine lv_iload hx hb dK_fill_16 (lv_at hl 3 rfl) ?_
    refine lv_iconst (v := 4) hx hb dK_fill_18 (by decide) ?_
    refine lv_icmp_ge (tgt := 48) hx hb dK_fill_19 rfl (fun h3 => absurd h3 (by decide)) (fun _ => ?_)
    refine lv_aload_n hx hb dK_fill_22 rfl (lv_at hl 0 rfl) ?_
    refine kget_0_0 hx hb hts inK hown hC hP (hts _ wK_f9) dK_fill_23 ?_
    refine lv_iload_n hx hb dK_fill_26 rfl (lv_at hl 1 rfl) ?_
    refine lv_iload hx hb dK_fill_27 (lv_at hl 3 rfl) ?_
    refine lv_iadd hx hb dK_fill_29 ?_
    refine lv_lload_n hx hb dK_fill_30 rfl (lv_at hl 2 rfl) ?_
    refine lv_bipush (v := 16) hx hb dK_fill_31 (by decide) ?_
    refine lv_iload hx hb dK_fill_33 (lv_at hl 3 rfl) ?_
    refine lv_imul hx hb dK_fill_35 ?_
    refine lv_lushr (v := (x2.toUInt64 >>> (((16 * 0) : Int32).toInt64.toUInt64 &&& Int64.toUInt64 63)).toInt64) hx hb dK_fill_36 rfl ?_
    refine lv_l2i (v := ((x2.toUInt64 >>> (((16 * 0) : Int32).toInt64.toUInt64 &&& Int64.toUInt64 63)).toInt64 : Int64).toInt32) hx hb dK_fill_37 rfl ?_
    refine lv_ldc (v := 65535) hx hb hown (hts _ wK_c39) dK_fill_38 ?_
    refine lv_iand hx hb dK_fill_40 ?_
    refine kast_1 hx hb hC hP hS (vin_add hle252_x1 (by decide)) dK_fill_41 (fun σ4 H locs e4 hP hS => ?_)
    have hE := hE.trans (bd_e e4)
    have hB : KB σ4 := by rw [e4]; exact hB
    refine lv_iinc (k := 3) (v := 1) (lv' := [(4, .int 1), (0, .ref (q 0)), (1, .int x1), (2, .long x2)]) hx hb dK_fill_42 hl rfl (by decide) (by decide) rfl (fun ls hl => ?_)
    refine lv_goto (tgt := 16) hx hb dK_fill_45 rfl ?_
    have hl := lv_sub hl [1, 2, 3, 0] rfl
    exact b16_1 _ _ _ _ x1 x2 hle252_x1 hE hl hP hB hS
  refine lv_iload_n hx hb dK_fill_0 rfl (lv_at hl 1 rfl) ?_
  refine lv_if_lt (tgt := 11) hx hb dK_fill_1 rfl (fun h1 => ?_) (fun h1 => ?_)
  · have hE := hE.trans (if_pos h1)
    have hl := lv_sub hl [] rfl
    exact b11 _ _ _ _ hE hl hP hB hS
  · have hE := hE.trans (if_neg h1)
    refine lv_iload_n hx hb dK_fill_4 rfl (lv_at hl 1 rfl) ?_
    refine lv_sipush (v := 252) hx hb dK_fill_5 (by decide) ?_
    refine lv_icmp_le (tgt := 13) hx hb dK_fill_8 rfl (fun h2 => ?_) (fun h2 => ?_)
    · have hE := hE.trans (if_pos h2)
      refine lv_iconst (v := 0) hx hb dK_fill_13 (by decide) ?_
      refine lv_istore (lv' := [(4, .int 0), (0, .ref (q 0)), (1, .int a1), (2, .long a2)]) hx hb dK_fill_14 hl (by decide) rfl (fun ls hl => ?_)
      have hl := lv_sub hl [1, 2, 3, 0] rfl
      exact b16_0 _ _ _ _ a1 a2 ⟨h1, h2⟩ hE hl hP hB hS
    · have hE := hE.trans (if_neg h2)
      have hl := lv_sub hl [] rfl
      exact b11 _ _ _ _ hE hl hP hB hS
set_option maxRecDepth 100000 in
set_option maxHeartbeats 4000000 in
theorem c_k_isBase (l : Launch) (D : va_G) (q : Nat → Nat) (cA : ClassId) (tN : Nat) (σ0 : St) (a0 : Int32) : Met l yK_isBase wsK_isBase { frames := 0, cells := 0, slots := 0, locals := 0 } (va_Pc [.int a0] (KPre D q cA tN σ0)) (va_Qi (fun r u => (u, r) = k_isBase σ0 a0 ∧ zb r) (KPost D q cA) (KA q)) 0 0 (KA q) := by
  refine Met.ofW (cc := cK_isBase) (maxL := 1) (ret := (some .boolean)) (by decide) rfl ?_
  intro p e s m args below meth c s₁ B hml hv
  obtain ⟨rfl, hP, hB, hC⟩ := hv
  have hx := B.exec
  have hb := B.bytes
  have hr := B.returns
  have hts : ∀ w ∈ gw, w.before ([.int a0] : List Value).toArray s = true := fun w h => atoms_spec (ws := wsK_isBase) B.pre w (List.mem_cons_of_mem _ h)
  have hown : s.vm.findClass RK = some m.cls := findClass_of_methodNamed B.named
  have hlocks := B.notSynchronized
  have hS : va_S (KA q) s.heap s.heap [] := va_S.rf
  have hl := lv_entry ([.int a0]) (n := 1) (Nat.le_of_ble_eq_true rfl)
  rw [lg_entry_eq]
  generalize (lg_sl ([.int a0]) ++ List.replicate (1 - (lg_sl ([.int a0])).length) Slot.unset).toArray = ls at hl ⊢
  have hl : lv_has ls 1 [(0, .int a0)] := hl
  have hE : k_isBase σ0 a0 = k_isBase σ0 a0 := rfl
  have b15 : ∀ (H : Heap) (locs : List Loc) (ls : Array Slot) (σ : St) (y0 : Int32), zb y0 → k_isBase σ0 a0 = k_isBase_15 σ y0 → lv_has ls 1 [] → va_P D vwCl (wsK q cA σ) H → KB σ → va_S (KA q) s.heap H locs → W p l e (headSpec wsK_isBase { frames := 0, cells := 0, slots := 0, locals := 0 }).room s m ([.int a0] : List Value).toArray below meth c H locs 0 0 (MQ below (va_Qi (fun r u => (u, r) = k_isBase σ0 a0 ∧ zb r) (KPost D q cA) (KA q)) ([.int a0] : List Value).toArray s 0 0 (KA q)) (F0 m 15 ls [.int y0]) := by
    intro H locs ls σ y0 hz_y0 hE hl hP hB hS
    exact W.zret (v := y0) hx hb hr (zb_n hz_y0).1 (fun t ht hW => ⟨⟨y0, σ, rfl, ⟨hE.symm, hz_y0⟩, ⟨by rw [ht]; exact hP, hB⟩⟩, hS.F ht⟩) hS.2.2 dK_isBase_15
  have b14 : ∀ (H : Heap) (locs : List Loc) (ls : Array Slot) (σ : St), k_isBase σ0 a0 = k_isBase_14 σ → lv_has ls 1 [] → va_P D vwCl (wsK q cA σ) H → KB σ → va_S (KA q) s.heap H locs → W p l e (headSpec wsK_isBase { frames := 0, cells := 0, slots := 0, locals := 0 }).room s m ([.int a0] : List Value).toArray below meth c H locs 0 0 (MQ below (va_Qi (fun r u => (u, r) = k_isBase σ0 a0 ∧ zb r) (KPost D q cA) (KA q)) ([.int a0] : List Value).toArray s 0 0 (KA q)) (F0 m 14 ls []) := by
    intro H locs ls σ hE hl hP hB hS
    refine lv_iconst (v := 0) hx hb dK_isBase_14 (by decide) ?_
    exact b15 _ _ _ _ 0 (by decide) hE hl hP hB hS
  refine lv_iload_n hx hb dK_isBase_0 rfl (lv_at hl 0 rfl) ?_
  refine lv_if_lt (tgt := 14) hx hb dK_isBase_1 rfl (fun h1 => ?_) (fun h1 => ?_)
  · have hE := hE.trans (if_pos h1)
    have hl := lv_sub hl [] rfl
    exact b14 _ _ _ _ hE hl hP hB hS
  · have hE := hE.trans (if_neg h1)
    refine lv_iload_n hx hb dK_isBase_4 rfl (lv_at hl 0 rfl) ?_
    refine lv_bipush (v := 31) hx hb dK_isBase_5 (by decide) ?_
    refine lv_icmp_gt (tgt := 14) hx hb dK_isBase_7 rfl (fun h2 => ?_) (fun h2 => ?_)
    · have hE := hE.trans (if_pos h2)
      have hl := lv_sub hl [] rfl
      exact b14 _ _ _ _ hE hl hP hB hS
    · have hE := hE.trans (if_neg h2)
      refine lv_iconst (v := 1) hx hb dK_isBase_10 (by decide) ?_
      refine lv_goto (tgt := 15) hx hb dK_isBase_11 rfl ?_
      have hl := lv_sub hl [] rfl
      exact b15 _ _ _ _ 1 (by decide) hE hl hP hB hS
set_option maxRecDepth 100000 in
set_option maxHeartbeats 4000000 in
theorem c_k_settings (l : Launch) (D : va_G) (q : Nat → Nat) (cA : ClassId) (tN : Nat) (σ0 : St) (a1 : Int32) (a2 : Int32) (a3 : Int32) (a4 : Int32) (hz_a1 : zb a1) : Met l yK_settings wsK_settings { frames := 1, cells := 0, slots := 0, locals := 20 } (va_Pc [.ref (q 0), .int a1, .int a2, .int a3, .int a4] (KPre D q cA tN σ0)) (va_Qi (fun r u => (u, r) = k_settings σ0 a1 a2 a3 a4 ∧ zb r) (KPost D q cA) (KA q)) 0 0 (KA q) := by
  refine Met.ofW (cc := cK_settings) (maxL := 5) (ret := (some .boolean)) (by decide) rfl ?_
  intro p e s m args below meth c s₁ B hml hv
  obtain ⟨rfl, hP, hB, hC⟩ := hv
  have hx := B.exec
  have hb := B.bytes
  have hr := B.returns
  have hts : ∀ w ∈ gw, w.before ([.ref (q 0), .int a1, .int a2, .int a3, .int a4] : List Value).toArray s = true := fun w h => atoms_spec (ws := wsK_settings) B.pre w (List.mem_cons_of_mem _ h)
  have hown : s.vm.findClass RK = some m.cls := findClass_of_methodNamed B.named
  have hlocks := B.notSynchronized
  have hS : va_S (KA q) s.heap s.heap [] := va_S.rf
  have hl := lv_entry ([.ref (q 0), .int a1, .int a2, .int a3, .int a4]) (n := 5) (Nat.le_of_ble_eq_true rfl)
  rw [lg_entry_eq]
  generalize (lg_sl ([.ref (q 0), .int a1, .int a2, .int a3, .int a4]) ++ List.replicate (5 - (lg_sl ([.ref (q 0), .int a1, .int a2, .int a3, .int a4])).length) Slot.unset).toArray = ls at hl ⊢
  have hl : lv_has ls 5 [(0, .ref (q 0)), (1, .int a1), (2, .int a2), (3, .int a3), (4, .int a4)] := hl
  have hE : k_settings σ0 a1 a2 a3 a4 = k_settings σ0 a1 a2 a3 a4 := rfl
  have b25 : ∀ (H : Heap) (locs : List Loc) (ls : Array Slot) (σ : St), k_settings σ0 a1 a2 a3 a4 = k_settings_25 σ → lv_has ls 5 [] → va_P D vwCl (wsK q cA σ) H → KB σ → va_S (KA q) s.heap H locs → W p l e (headSpec wsK_settings { frames := 1, cells := 0, slots := 0, locals := 20 }).room s m ([.ref (q 0), .int a1, .int a2, .int a3, .int a4] : List Value).toArray below meth c H locs 0 0 (MQ below (va_Qi (fun r u => (u, r) = k_settings σ0 a1 a2 a3 a4 ∧ zb r) (KPost D q cA) (KA q)) ([.ref (q 0), .int a1, .int a2, .int a3, .int a4] : List Value).toArray s 0 0 (KA q)) (F0 m 25 ls []) := by
    intro H locs ls σ hE hl hP hB hS
    refine lv_iconst (v := 0) hx hb dK_settings_25 (by decide) ?_
    exact W.zret (v := 0) hx hb hr (zb_n (by decide)).1 (fun t ht hW => ⟨⟨0, σ, rfl, ⟨hE.symm, (by decide)⟩, ⟨by rw [ht]; exact hP, hB⟩⟩, hS.F ht⟩) hS.2.2 dK_settings_26
  refine lv_iload_n hx hb dK_settings_0 rfl (lv_at hl 2 rfl) ?_
  refine lv_if_lt (tgt := 25) hx hb dK_settings_1 rfl (fun h1 => ?_) (fun h1 => ?_)
  · have hE := hE.trans (if_pos h1)
    have hl := lv_sub hl [] rfl
    exact b25 _ _ _ _ hE hl hP hB hS
  · have hE := hE.trans (if_neg h1)
    refine lv_iload_n hx hb dK_settings_4 rfl (lv_at hl 2 rfl) ?_
    refine lv_bipush (v := 15) hx hb dK_settings_5 (by decide) ?_
    refine lv_icmp_gt (tgt := 25) hx hb dK_settings_7 rfl (fun h2 => ?_) (fun h2 => ?_)
    · have hE := hE.trans (if_pos h2)
      have hl := lv_sub hl [] rfl
      exact b25 _ _ _ _ hE hl hP hB hS
    · have hE := hE.trans (if_neg h2)
      refine lv_iload_n hx hb dK_settings_10 rfl (lv_at hl 3 rfl) ?_
      refine kscalli (rest := []) ⟨hx, hb, hml, hown, hts⟩ hC hP hB hS (c_k_isBase l D q cA tN σ0 a3) (va_cwS 1 hts gK_48 rfl rfl rfl hdK_isBase ⟨Nat.le_of_ble_eq_true rfl, Nat.le_of_ble_eq_true rfl⟩) rfl hl.1 rfl (Nat.le_of_ble_eq_true rfl) dK_settings_11 (fun σ3 v4 H locs e3 hP hB hS => ?_)
      have z3 : zb v4 := e3.2
      have hE := hE.trans (bd2_e e3.1)
      refine lv_if_eq (tgt := 25) hx hb dK_settings_14 rfl (fun h5 => ?_) (fun h5 => ?_)
      · have hE := hE.trans (if_pos h5)
        have hl := lv_sub hl [] rfl
        exact b25 _ _ _ _ hE hl hP hB hS
      · have hE := hE.trans (if_neg h5)
        refine lv_iload hx hb dK_settings_17 (lv_at hl 4 rfl) ?_
        refine kscalli (rest := []) ⟨hx, hb, hml, hown, hts⟩ hC hP hB hS (c_k_isBase l D q cA tN σ3 a4) (va_cwS 1 hts gK_48 rfl rfl rfl hdK_isBase ⟨Nat.le_of_ble_eq_true rfl, Nat.le_of_ble_eq_true rfl⟩) rfl hl.1 rfl (Nat.le_of_ble_eq_true rfl) dK_settings_19 (fun σ6 v7 H locs e6 hP hB hS => ?_)
        have z6 : zb v7 := e6.2
        have hE := hE.trans (bd2_e e6.1)
        refine lv_if_ne (tgt := 27) hx hb dK_settings_22 rfl (fun h8 => ?_) (fun h8 => ?_)
        · have hE := hE.trans (if_neg h8)
          refine lv_aload_n hx hb dK_settings_27 rfl (lv_at hl 0 rfl) ?_
          refine lv_iload_n hx hb dK_settings_28 rfl (lv_at hl 1 rfl) ?_
          refine kput_0_7 hx hb hts inK hown hC hP (hts _ wK_f35) hS hz_a1 dK_settings_29 (fun σ9 H locs e9 hP hS => ?_)
          have hE := hE.trans (bd_e e9)
          have hB : KB σ9 := by rw [e9]; exact KB_0_7s hB hz_a1
          refine lv_aload_n hx hb dK_settings_32 rfl (lv_at hl 0 rfl) ?_
          refine lv_iload_n hx hb dK_settings_33 rfl (lv_at hl 2 rfl) ?_
          refine kput_0_8 hx hb hts inK hown hC hP (hts _ wK_f51) hS dK_settings_34 (fun σ10 H locs e10 hP hS => ?_)
          have hE := hE.trans (bd_e e10)
          have hB : KB σ10 := by rw [e10]; exact hB
          refine lv_aload_n hx hb dK_settings_37 rfl (lv_at hl 0 rfl) ?_
          refine lv_iload_n hx hb dK_settings_38 rfl (lv_at hl 3 rfl) ?_
          refine kput_0_9 hx hb hts inK hown hC hP (hts _ wK_f55) hS dK_settings_39 (fun σ11 H locs e11 hP hS => ?_)
          have hE := hE.trans (bd_e e11)
          have hB : KB σ11 := by rw [e11]; exact hB
          refine lv_aload_n hx hb dK_settings_42 rfl (lv_at hl 0 rfl) ?_
          refine lv_iload hx hb dK_settings_43 (lv_at hl 4 rfl) ?_
          refine kput_0_10 hx hb hts inK hown hC hP (hts _ wK_f58) hS dK_settings_45 (fun σ12 H locs e12 hP hS => ?_)
          have hE := hE.trans (bd_e e12)
          have hB : KB σ12 := by rw [e12]; exact hB
          refine lv_iconst (v := 1) hx hb dK_settings_48 (by decide) ?_
          exact W.zret (v := 1) hx hb hr (zb_n (by decide)).1 (fun t ht hW => ⟨⟨1, σ12, rfl, ⟨hE.symm, (by decide)⟩, ⟨by rw [ht]; exact hP, hB⟩⟩, hS.F ht⟩) hS.2.2 dK_settings_49
        · have hE := hE.trans (if_pos h8)
          have hl := lv_sub hl [] rfl
          exact b25 _ _ _ _ hE hl hP hB hS
set_option maxRecDepth 100000 in
set_option maxHeartbeats 4000000 in
theorem c_k_isAddress (l : Launch) (D : va_G) (q : Nat → Nat) (cA : ClassId) (tN : Nat) (σ0 : St) (a0 : Int32) : Met l yK_isAddress wsK_isAddress { frames := 0, cells := 0, slots := 0, locals := 0 } (va_Pc [.int a0] (KPre D q cA tN σ0)) (va_Qi (fun r u => (u, r) = k_isAddress σ0 a0 ∧ zb r) (KPost D q cA) (KA q)) 0 0 (KA q) := by
  refine Met.ofW (cc := cK_isAddress) (maxL := 1) (ret := (some .boolean)) (by decide) rfl ?_
  intro p e s m args below meth c s₁ B hml hv
  obtain ⟨rfl, hP, hB, hC⟩ := hv
  have hx := B.exec
  have hb := B.bytes
  have hr := B.returns
  have hts : ∀ w ∈ gw, w.before ([.int a0] : List Value).toArray s = true := fun w h => atoms_spec (ws := wsK_isAddress) B.pre w (List.mem_cons_of_mem _ h)
  have hown : s.vm.findClass RK = some m.cls := findClass_of_methodNamed B.named
  have hlocks := B.notSynchronized
  have hS : va_S (KA q) s.heap s.heap [] := va_S.rf
  have hl := lv_entry ([.int a0]) (n := 1) (Nat.le_of_ble_eq_true rfl)
  rw [lg_entry_eq]
  generalize (lg_sl ([.int a0]) ++ List.replicate (1 - (lg_sl ([.int a0])).length) Slot.unset).toArray = ls at hl ⊢
  have hl : lv_has ls 1 [(0, .int a0)] := hl
  have hE : k_isAddress σ0 a0 = k_isAddress σ0 a0 := rfl
  have b16 : ∀ (H : Heap) (locs : List Loc) (ls : Array Slot) (σ : St) (y0 : Int32), zb y0 → k_isAddress σ0 a0 = k_isAddress_16 σ y0 → lv_has ls 1 [] → va_P D vwCl (wsK q cA σ) H → KB σ → va_S (KA q) s.heap H locs → W p l e (headSpec wsK_isAddress { frames := 0, cells := 0, slots := 0, locals := 0 }).room s m ([.int a0] : List Value).toArray below meth c H locs 0 0 (MQ below (va_Qi (fun r u => (u, r) = k_isAddress σ0 a0 ∧ zb r) (KPost D q cA) (KA q)) ([.int a0] : List Value).toArray s 0 0 (KA q)) (F0 m 16 ls [.int y0]) := by
    intro H locs ls σ y0 hz_y0 hE hl hP hB hS
    exact W.zret (v := y0) hx hb hr (zb_n hz_y0).1 (fun t ht hW => ⟨⟨y0, σ, rfl, ⟨hE.symm, hz_y0⟩, ⟨by rw [ht]; exact hP, hB⟩⟩, hS.F ht⟩) hS.2.2 dK_isAddress_16
  have b15 : ∀ (H : Heap) (locs : List Loc) (ls : Array Slot) (σ : St), k_isAddress σ0 a0 = k_isAddress_15 σ → lv_has ls 1 [] → va_P D vwCl (wsK q cA σ) H → KB σ → va_S (KA q) s.heap H locs → W p l e (headSpec wsK_isAddress { frames := 0, cells := 0, slots := 0, locals := 0 }).room s m ([.int a0] : List Value).toArray below meth c H locs 0 0 (MQ below (va_Qi (fun r u => (u, r) = k_isAddress σ0 a0 ∧ zb r) (KPost D q cA) (KA q)) ([.int a0] : List Value).toArray s 0 0 (KA q)) (F0 m 15 ls []) := by
    intro H locs ls σ hE hl hP hB hS
    refine lv_iconst (v := 0) hx hb dK_isAddress_15 (by decide) ?_
    exact b16 _ _ _ _ 0 (by decide) hE hl hP hB hS
  refine lv_iload_n hx hb dK_isAddress_0 rfl (lv_at hl 0 rfl) ?_
  refine lv_if_lt (tgt := 15) hx hb dK_isAddress_1 rfl (fun h1 => ?_) (fun h1 => ?_)
  · have hE := hE.trans (if_pos h1)
    have hl := lv_sub hl [] rfl
    exact b15 _ _ _ _ hE hl hP hB hS
  · have hE := hE.trans (if_neg h1)
    refine lv_iload_n hx hb dK_isAddress_4 rfl (lv_at hl 0 rfl) ?_
    refine lv_sipush (v := 256) hx hb dK_isAddress_5 (by decide) ?_
    refine lv_icmp_ge (tgt := 15) hx hb dK_isAddress_8 rfl (fun h2 => ?_) (fun h2 => ?_)
    · have hE := hE.trans (if_pos h2)
      have hl := lv_sub hl [] rfl
      exact b15 _ _ _ _ hE hl hP hB hS
    · have hE := hE.trans (if_neg h2)
      refine lv_iconst (v := 1) hx hb dK_isAddress_11 (by decide) ?_
      refine lv_goto (tgt := 16) hx hb dK_isAddress_12 rfl ?_
      have hl := lv_sub hl [] rfl
      exact b16 _ _ _ _ 1 (by decide) hE hl hP hB hS
set_option maxRecDepth 100000 in
set_option maxHeartbeats 4000000 in
theorem c_k_begin (l : Launch) (D : va_G) (q : Nat → Nat) (cA : ClassId) (tN : Nat) (σ0 : St) (a1 : Int32) (a2 : Int32) (a3 : Int32) (a4 : Int32) (hz_a2 : zb a2) : Met l yK_begin wsK_begin { frames := 1, cells := 0, slots := 0, locals := 20 } (va_Pc [.ref (q 0), .int a1, .int a2, .int a3, .int a4] (KPre D q cA tN σ0)) (va_Qi (fun r u => (u, r) = k_begin σ0 a1 a2 a3 a4 ∧ zb r) (KPost D q cA) (KA q)) 0 0 (KA q) := by
  refine Met.ofW (cc := cK_begin) (maxL := 5) (ret := (some .boolean)) (by decide) rfl ?_
  intro p e s m args below meth c s₁ B hml hv
  obtain ⟨rfl, hP, hB, hC⟩ := hv
  have hx := B.exec
  have hb := B.bytes
  have hr := B.returns
  have hts : ∀ w ∈ gw, w.before ([.ref (q 0), .int a1, .int a2, .int a3, .int a4] : List Value).toArray s = true := fun w h => atoms_spec (ws := wsK_begin) B.pre w (List.mem_cons_of_mem _ h)
  have hown : s.vm.findClass RK = some m.cls := findClass_of_methodNamed B.named
  have hlocks := B.notSynchronized
  have hS : va_S (KA q) s.heap s.heap [] := va_S.rf
  have hl := lv_entry ([.ref (q 0), .int a1, .int a2, .int a3, .int a4]) (n := 5) (Nat.le_of_ble_eq_true rfl)
  rw [lg_entry_eq]
  generalize (lg_sl ([.ref (q 0), .int a1, .int a2, .int a3, .int a4]) ++ List.replicate (5 - (lg_sl ([.ref (q 0), .int a1, .int a2, .int a3, .int a4])).length) Slot.unset).toArray = ls at hl ⊢
  have hl : lv_has ls 5 [(0, .ref (q 0)), (1, .int a1), (2, .int a2), (3, .int a3), (4, .int a4)] := hl
  have hE : k_begin σ0 a1 a2 a3 a4 = k_begin σ0 a1 a2 a3 a4 := rfl
  refine lv_iload_n hx hb dK_begin_0 rfl (lv_at hl 1 rfl) ?_
  refine kscalli (rest := []) ⟨hx, hb, hml, hown, hts⟩ hC hP hB hS (c_k_isAddress l D q cA tN σ0 a1) (va_cwS 1 hts gK_40 rfl rfl rfl hdK_isAddress ⟨Nat.le_of_ble_eq_true rfl, Nat.le_of_ble_eq_true rfl⟩) rfl hl.1 rfl (Nat.le_of_ble_eq_true rfl) dK_begin_1 (fun σ1 v2 H locs e1 hP hB hS => ?_)
  have z1 : zb v2 := e1.2
  have hE := hE.trans (bd2_e e1.1)
  refine lv_if_ne (tgt := 9) hx hb dK_begin_4 rfl (fun h3 => ?_) (fun h3 => ?_)
  · have hE := hE.trans (if_neg h3)
    refine lv_aload_n hx hb dK_begin_9 rfl (lv_at hl 0 rfl) ?_
    refine kget_0_5 hx hb hts inK hown hC hP (hts _ wK_f28) dK_begin_10 ?_
    refine lv_iload_n hx hb dK_begin_13 rfl (lv_at hl 1 rfl) ?_
    refine kput_6_3 hx hb hts inQ hown hC hP (hts _ wK_f61) hS dK_begin_14 (fun σ4 H locs e4 hP hS => ?_)
    have hE := hE.trans (bd_e e4)
    have hB : KB σ4 := by rw [e4]; exact hB
    refine lv_aload_n hx hb dK_begin_17 rfl (lv_at hl 0 rfl) ?_
    refine kget_0_5 hx hb hts inK hown hC hP (hts _ wK_f28) dK_begin_18 ?_
    refine lv_iload_n hx hb dK_begin_21 rfl (lv_at hl 2 rfl) ?_
    refine kput_6_5 hx hb hts inQ hown hC hP (hts _ wK_f64) hS hz_a2 dK_begin_22 (fun σ5 H locs e5 hP hS => ?_)
    have hE := hE.trans (bd_e e5)
    have hB : KB σ5 := by rw [e5]; exact KB_6_5s hB hz_a2
    refine lv_aload_n hx hb dK_begin_25 rfl (lv_at hl 0 rfl) ?_
    refine kget_0_5 hx hb hts inK hown hC hP (hts _ wK_f28) dK_begin_26 ?_
    refine lv_iload_n hx hb dK_begin_29 rfl (lv_at hl 3 rfl) ?_
    refine lv_ldc (v := 65535) hx hb hown (hts _ wK_c39) dK_begin_30 ?_
    refine lv_iand hx hb dK_begin_32 ?_
    refine kput_6_1 hx hb hts inQ hown hC hP (hts _ wK_f67) hS dK_begin_33 (fun σ6 H locs e6 hP hS => ?_)
    have hE := hE.trans (bd_e e6)
    have hB : KB σ6 := by rw [e6]; exact hB
    refine lv_aload_n hx hb dK_begin_36 rfl (lv_at hl 0 rfl) ?_
    refine kget_0_5 hx hb hts inK hown hC hP (hts _ wK_f28) dK_begin_37 ?_
    refine lv_iload hx hb dK_begin_40 (lv_at hl 4 rfl) ?_
    refine lv_ldc (v := 65535) hx hb hown (hts _ wK_c39) dK_begin_42 ?_
    refine lv_iand hx hb dK_begin_44 ?_
    refine kput_6_2 hx hb hts inQ hown hC hP (hts _ wK_f70) hS dK_begin_45 (fun σ7 H locs e7 hP hS => ?_)
    have hE := hE.trans (bd_e e7)
    have hB : KB σ7 := by rw [e7]; exact hB
    refine lv_aload_n hx hb dK_begin_48 rfl (lv_at hl 0 rfl) ?_
    refine kget_0_5 hx hb hts inK hown hC hP (hts _ wK_f28) dK_begin_49 ?_
    refine lv_iconst (v := 0) hx hb dK_begin_52 (by decide) ?_
    refine kput_6_6 hx hb hts inQ hown hC hP (hts _ wK_f73) hS dK_begin_53 (fun σ8 H locs e8 hP hS => ?_)
    have hE := hE.trans (bd_e e8)
    have hB : KB σ8 := by rw [e8]; exact hB
    refine lv_aload_n hx hb dK_begin_56 rfl (lv_at hl 0 rfl) ?_
    refine lv_iconst (v := 0) hx hb dK_begin_57 (by decide) ?_
    refine kput_0_11 hx hb hts inK hown hC hP (hts _ wK_f76) hS dK_begin_58 (fun σ9 H locs e9 hP hS => ?_)
    have hE := hE.trans (bd_e e9)
    have hB : KB σ9 := by rw [e9]; exact hB
    refine lv_aload_n hx hb dK_begin_61 rfl (lv_at hl 0 rfl) ?_
    refine lv_iconst (v := 0) hx hb dK_begin_62 (by decide) ?_
    refine kput_0_12 hx hb hts inK hown hC hP (hts _ wK_f79) hS dK_begin_63 (fun σ10 H locs e10 hP hS => ?_)
    have hE := hE.trans (bd_e e10)
    have hB : KB σ10 := by rw [e10]; exact hB
    refine lv_iconst (v := 1) hx hb dK_begin_66 (by decide) ?_
    exact W.zret (v := 1) hx hb hr (zb_n (by decide)).1 (fun t ht hW => ⟨⟨1, σ10, rfl, ⟨hE.symm, (by decide)⟩, ⟨by rw [ht]; exact hP, hB⟩⟩, hS.F ht⟩) hS.2.2 dK_begin_67
  · have hE := hE.trans (if_pos h3)
    refine lv_iconst (v := 0) hx hb dK_begin_7 (by decide) ?_
    exact W.zret (v := 0) hx hb hr (zb_n (by decide)).1 (fun t ht hW => ⟨⟨0, σ1, rfl, ⟨hE.symm, (by decide)⟩, ⟨by rw [ht]; exact hP, hB⟩⟩, hS.F ht⟩) hS.2.2 dK_begin_8
set_option maxRecDepth 100000 in
set_option maxHeartbeats 4000000 in
theorem c_k_set (l : Launch) (D : va_G) (q : Nat → Nat) (cA : ClassId) (tN : Nat) (σ0 : St) (a1 : Int32) (a2 : Int32) : Met l yK_set wsK_set { frames := 0, cells := 0, slots := 0, locals := 0 } (va_Pc [.ref (q 0), .int a1, .int a2] (KPre D q cA tN σ0)) (va_Qi (fun r u => (u, r) = k_set σ0 a1 a2 ∧ zb r) (KPost D q cA) (KA q)) 0 0 (KA q) := by
  refine Met.ofW (cc := cK_set) (maxL := 3) (ret := (some .boolean)) (by decide) rfl ?_
  intro p e s m args below meth c s₁ B hml hv
  obtain ⟨rfl, hP, hB, hC⟩ := hv
  have hx := B.exec
  have hb := B.bytes
  have hr := B.returns
  have hts : ∀ w ∈ gw, w.before ([.ref (q 0), .int a1, .int a2] : List Value).toArray s = true := fun w h => atoms_spec (ws := wsK_set) B.pre w (List.mem_cons_of_mem _ h)
  have hown : s.vm.findClass RK = some m.cls := findClass_of_methodNamed B.named
  have hlocks := B.notSynchronized
  have hS : va_S (KA q) s.heap s.heap [] := va_S.rf
  have hl := lv_entry ([.ref (q 0), .int a1, .int a2]) (n := 3) (Nat.le_of_ble_eq_true rfl)
  rw [lg_entry_eq]
  generalize (lg_sl ([.ref (q 0), .int a1, .int a2]) ++ List.replicate (3 - (lg_sl ([.ref (q 0), .int a1, .int a2])).length) Slot.unset).toArray = ls at hl ⊢
  have hl : lv_has ls 3 [(0, .ref (q 0)), (1, .int a1), (2, .int a2)] := hl
  have hE : k_set σ0 a1 a2 = k_set σ0 a1 a2 := rfl
  have b10 : ∀ (H : Heap) (locs : List Loc) (ls : Array Slot) (σ : St), k_set σ0 a1 a2 = k_set_10 σ → lv_has ls 3 [] → va_P D vwCl (wsK q cA σ) H → KB σ → va_S (KA q) s.heap H locs → W p l e (headSpec wsK_set { frames := 0, cells := 0, slots := 0, locals := 0 }).room s m ([.ref (q 0), .int a1, .int a2] : List Value).toArray below meth c H locs 0 0 (MQ below (va_Qi (fun r u => (u, r) = k_set σ0 a1 a2 ∧ zb r) (KPost D q cA) (KA q)) ([.ref (q 0), .int a1, .int a2] : List Value).toArray s 0 0 (KA q)) (F0 m 10 ls []) := by
    intro H locs ls σ hE hl hP hB hS
    refine lv_iconst (v := 0) hx hb dK_set_10 (by decide) ?_
    exact W.zret (v := 0) hx hb hr (zb_n (by decide)).1 (fun t ht hW => ⟨⟨0, σ, rfl, ⟨hE.symm, (by decide)⟩, ⟨by rw [ht]; exact hP, hB⟩⟩, hS.F ht⟩) hS.2.2 dK_set_11
  refine lv_iload_n hx hb dK_set_0 rfl (lv_at hl 1 rfl) ?_
  refine lv_if_lt (tgt := 10) hx hb dK_set_1 rfl (fun h1 => ?_) (fun h1 => ?_)
  · have hE := hE.trans (if_pos h1)
    have hl := lv_sub hl [] rfl
    exact b10 _ _ _ _ hE hl hP hB hS
  · have hE := hE.trans (if_neg h1)
    refine lv_iload_n hx hb dK_set_4 rfl (lv_at hl 1 rfl) ?_
    refine lv_bipush (v := 6) hx hb dK_set_5 (by decide) ?_
    refine lv_icmp_le (tgt := 12) hx hb dK_set_7 rfl (fun h2 => ?_) (fun h2 => ?_)
    · have hE := hE.trans (if_pos h2)
      refine lv_aload_n hx hb dK_set_12 rfl (lv_at hl 0 rfl) ?_
      refine kget_0_5 hx hb hts inK hown hC hP (hts _ wK_f28) dK_set_13 ?_
      refine kget_6_0 hx hb hts inQ hown hC hP (hts _ wK_f82) dK_set_16 ?_
      refine lv_iload_n hx hb dK_set_19 rfl (lv_at hl 1 rfl) ?_
      refine lv_iload_n hx hb dK_set_20 rfl (lv_at hl 2 rfl) ?_
      refine lv_ldc (v := 65535) hx hb hown (hts _ wK_c39) dK_set_21 ?_
      refine lv_iand hx hb dK_set_23 ?_
      refine kast_8 hx hb hC hP hS (vin_le h1 h2 (by decide)) dK_set_24 (fun σ3 H locs e3 hP hS => ?_)
      have hE := hE.trans (bd_e e3)
      have hB : KB σ3 := by rw [e3]; exact hB
      refine lv_iconst (v := 1) hx hb dK_set_25 (by decide) ?_
      exact W.zret (v := 1) hx hb hr (zb_n (by decide)).1 (fun t ht hW => ⟨⟨1, σ3, rfl, ⟨hE.symm, (by decide)⟩, ⟨by rw [ht]; exact hP, hB⟩⟩, hS.F ht⟩) hS.2.2 dK_set_26
    · have hE := hE.trans (if_neg h2)
      have hl := lv_sub hl [] rfl
      exact b10 _ _ _ _ hE hl hP hB hS
set_option maxRecDepth 100000 in
set_option maxHeartbeats 4000000 in
theorem c_k_interrupt (l : Launch) (D : va_G) (q : Nat → Nat) (cA : ClassId) (tN : Nat) (σ0 : St) (a1 : Int32) : Met l yK_interrupt wsK_interrupt { frames := 0, cells := 0, slots := 0, locals := 0 } (va_Pc [.ref (q 0), .int a1] (KPre D q cA tN σ0)) (va_Qi (fun r u => (u, r) = k_interrupt σ0 a1 ∧ zb r) (KPost D q cA) (KA q)) 0 0 (KA q) := by
  refine Met.ofW (cc := cK_interrupt) (maxL := 2) (ret := (some .boolean)) (by decide) rfl ?_
  intro p e s m args below meth c s₁ B hml hv
  obtain ⟨rfl, hP, hB, hC⟩ := hv
  have hx := B.exec
  have hb := B.bytes
  have hr := B.returns
  have hts : ∀ w ∈ gw, w.before ([.ref (q 0), .int a1] : List Value).toArray s = true := fun w h => atoms_spec (ws := wsK_interrupt) B.pre w (List.mem_cons_of_mem _ h)
  have hown : s.vm.findClass RK = some m.cls := findClass_of_methodNamed B.named
  have hlocks := B.notSynchronized
  have hS : va_S (KA q) s.heap s.heap [] := va_S.rf
  have hl := lv_entry ([.ref (q 0), .int a1]) (n := 2) (Nat.le_of_ble_eq_true rfl)
  rw [lg_entry_eq]
  generalize (lg_sl ([.ref (q 0), .int a1]) ++ List.replicate (2 - (lg_sl ([.ref (q 0), .int a1])).length) Slot.unset).toArray = ls at hl ⊢
  have hl : lv_has ls 2 [(0, .ref (q 0)), (1, .int a1)] := hl
  have hE : k_interrupt σ0 a1 = k_interrupt σ0 a1 := rfl
  have b11 : ∀ (H : Heap) (locs : List Loc) (ls : Array Slot) (σ : St), k_interrupt σ0 a1 = k_interrupt_11 σ → lv_has ls 2 [] → va_P D vwCl (wsK q cA σ) H → KB σ → va_S (KA q) s.heap H locs → W p l e (headSpec wsK_interrupt { frames := 0, cells := 0, slots := 0, locals := 0 }).room s m ([.ref (q 0), .int a1] : List Value).toArray below meth c H locs 0 0 (MQ below (va_Qi (fun r u => (u, r) = k_interrupt σ0 a1 ∧ zb r) (KPost D q cA) (KA q)) ([.ref (q 0), .int a1] : List Value).toArray s 0 0 (KA q)) (F0 m 11 ls []) := by
    intro H locs ls σ hE hl hP hB hS
    refine lv_iconst (v := 0) hx hb dK_interrupt_11 (by decide) ?_
    exact W.zret (v := 0) hx hb hr (zb_n (by decide)).1 (fun t ht hW => ⟨⟨0, σ, rfl, ⟨hE.symm, (by decide)⟩, ⟨by rw [ht]; exact hP, hB⟩⟩, hS.F ht⟩) hS.2.2 dK_interrupt_12
  refine lv_iload_n hx hb dK_interrupt_0 rfl (lv_at hl 1 rfl) ?_
  refine lv_iconst (v := 3) hx hb dK_interrupt_1 (by decide) ?_
  refine lv_icmp_lt (tgt := 11) hx hb dK_interrupt_2 rfl (fun h1 => ?_) (fun h1 => ?_)
  · have hE := hE.trans (if_pos h1)
    have hl := lv_sub hl [] rfl
    exact b11 _ _ _ _ hE hl hP hB hS
  · have hE := hE.trans (if_neg h1)
    refine lv_iload_n hx hb dK_interrupt_5 rfl (lv_at hl 1 rfl) ?_
    refine lv_bipush (v := 6) hx hb dK_interrupt_6 (by decide) ?_
    refine lv_icmp_le (tgt := 13) hx hb dK_interrupt_8 rfl (fun h2 => ?_) (fun h2 => ?_)
    · have hE := hE.trans (if_pos h2)
      refine lv_aload_n hx hb dK_interrupt_13 rfl (lv_at hl 0 rfl) ?_
      refine lv_dup hx hb dK_interrupt_14 rfl ?_
      refine kget_0_12 hx hb hts inK hown hC hP (hts _ wK_f79) dK_interrupt_15 ?_
      refine lv_iconst (v := 1) hx hb dK_interrupt_18 (by decide) ?_
      refine lv_iload_n hx hb dK_interrupt_19 rfl (lv_at hl 1 rfl) ?_
      refine lv_ishl hx hb dK_interrupt_20 ?_
      refine lv_ior hx hb dK_interrupt_21 ?_
      refine kput_0_12 hx hb hts inK hown hC hP (hts _ wK_f79) hS dK_interrupt_22 (fun σ3 H locs e3 hP hS => ?_)
      have hE := hE.trans (bd_e e3)
      have hB : KB σ3 := by rw [e3]; exact hB
      refine lv_iconst (v := 1) hx hb dK_interrupt_25 (by decide) ?_
      exact W.zret (v := 1) hx hb hr (zb_n (by decide)).1 (fun t ht hW => ⟨⟨1, σ3, rfl, ⟨hE.symm, (by decide)⟩, ⟨by rw [ht]; exact hP, hB⟩⟩, hS.F ht⟩) hS.2.2 dK_interrupt_26
    · have hE := hE.trans (if_neg h2)
      have hl := lv_sub hl [] rfl
      exact b11 _ _ _ _ hE hl hP hB hS
set_option maxRecDepth 100000 in
set_option maxHeartbeats 4000000 in
theorem c_k_word (l : Launch) (D : va_G) (q : Nat → Nat) (cA : ClassId) (tN : Nat) (σ0 : St) (a1 : Int32) : Met l yK_word wsK_word { frames := 0, cells := 0, slots := 0, locals := 0 } (va_Pc [.ref (q 0), .int a1] (KPre D q cA tN σ0)) (va_Qi (fun r u => (u, r) = k_word σ0 a1) (KPost D q cA) (KA q)) 0 0 (KA q) := by
  refine Met.ofW (cc := cK_word) (maxL := 2) (ret := (some .int)) (by decide) rfl ?_
  intro p e s m args below meth c s₁ B hml hv
  obtain ⟨rfl, hP, hB, hC⟩ := hv
  have hx := B.exec
  have hb := B.bytes
  have hr := B.returns
  have hts : ∀ w ∈ gw, w.before ([.ref (q 0), .int a1] : List Value).toArray s = true := fun w h => atoms_spec (ws := wsK_word) B.pre w (List.mem_cons_of_mem _ h)
  have hown : s.vm.findClass RK = some m.cls := findClass_of_methodNamed B.named
  have hlocks := B.notSynchronized
  have hS : va_S (KA q) s.heap s.heap [] := va_S.rf
  have hl := lv_entry ([.ref (q 0), .int a1]) (n := 2) (Nat.le_of_ble_eq_true rfl)
  rw [lg_entry_eq]
  generalize (lg_sl ([.ref (q 0), .int a1]) ++ List.replicate (2 - (lg_sl ([.ref (q 0), .int a1])).length) Slot.unset).toArray = ls at hl ⊢
  have hl : lv_has ls 2 [(0, .ref (q 0)), (1, .int a1)] := hl
  have hE : k_word σ0 a1 = k_word σ0 a1 := rfl
  refine lv_aload_n hx hb dK_word_0 rfl (lv_at hl 0 rfl) ?_
  refine kget_0_0 hx hb hts inK hown hC hP (hts _ wK_f9) dK_word_1 ?_
  refine lv_iload_n hx hb dK_word_4 rfl (lv_at hl 1 rfl) ?_
  refine lv_sipush (v := 255) hx hb dK_word_5 (by decide) ?_
  refine lv_iand hx hb dK_word_8 ?_
  refine kald_1 hx hb hC hP (vin_m 8 (by decide) (by decide) (by decide)) dK_word_9 ?_
  exact W.iret (v := (σ0 1 (ix (a1 &&& 255)))) hx hb hr (fun t ht hW => ⟨⟨(σ0 1 (ix (a1 &&& 255))), σ0, rfl, hE.symm, ⟨by rw [ht]; exact hP, hB⟩⟩, hS.F ht⟩) hS.2.2 dK_word_10
set_option maxRecDepth 100000 in
set_option maxHeartbeats 4000000 in
theorem c_k_register (l : Launch) (D : va_G) (q : Nat → Nat) (cA : ClassId) (tN : Nat) (σ0 : St) (a1 : Int32) : Met l yK_register wsK_register { frames := 0, cells := 0, slots := 0, locals := 0 } (va_Pc [.ref (q 0), .int a1] (KPre D q cA tN σ0)) (va_Qi (fun r u => (u, r) = k_register σ0 a1) (KPost D q cA) (KA q)) 0 0 (KA q) := by
  refine Met.ofW (cc := cK_register) (maxL := 2) (ret := (some .int)) (by decide) rfl ?_
  intro p e s m args below meth c s₁ B hml hv
  obtain ⟨rfl, hP, hB, hC⟩ := hv
  have hx := B.exec
  have hb := B.bytes
  have hr := B.returns
  have hts : ∀ w ∈ gw, w.before ([.ref (q 0), .int a1] : List Value).toArray s = true := fun w h => atoms_spec (ws := wsK_register) B.pre w (List.mem_cons_of_mem _ h)
  have hown : s.vm.findClass RK = some m.cls := findClass_of_methodNamed B.named
  have hlocks := B.notSynchronized
  have hS : va_S (KA q) s.heap s.heap [] := va_S.rf
  have hl := lv_entry ([.ref (q 0), .int a1]) (n := 2) (Nat.le_of_ble_eq_true rfl)
  rw [lg_entry_eq]
  generalize (lg_sl ([.ref (q 0), .int a1]) ++ List.replicate (2 - (lg_sl ([.ref (q 0), .int a1])).length) Slot.unset).toArray = ls at hl ⊢
  have hl : lv_has ls 2 [(0, .ref (q 0)), (1, .int a1)] := hl
  have hE : k_register σ0 a1 = k_register σ0 a1 := rfl
  have b111 : ∀ (H : Heap) (locs : List Loc) (ls : Array Slot) (σ : St) (y0 : Int32), k_register σ0 a1 = k_register_111 σ y0 → lv_has ls 2 [] → va_P D vwCl (wsK q cA σ) H → KB σ → va_S (KA q) s.heap H locs → W p l e (headSpec wsK_register { frames := 0, cells := 0, slots := 0, locals := 0 }).room s m ([.ref (q 0), .int a1] : List Value).toArray below meth c H locs 0 0 (MQ below (va_Qi (fun r u => (u, r) = k_register σ0 a1) (KPost D q cA) (KA q)) ([.ref (q 0), .int a1] : List Value).toArray s 0 0 (KA q)) (F0 m 111 ls [.int y0]) := by
    intro H locs ls σ y0 hE hl hP hB hS
    exact W.iret (v := y0) hx hb hr (fun t ht hW => ⟨⟨y0, σ, rfl, hE.symm, ⟨by rw [ht]; exact hP, hB⟩⟩, hS.F ht⟩) hS.2.2 dK_register_111
  have b127 : ∀ (H : Heap) (locs : List Loc) (ls : Array Slot) (σ : St) (y0 : Int32), k_register σ0 a1 = k_register_127 σ y0 → lv_has ls 2 [] → va_P D vwCl (wsK q cA σ) H → KB σ → va_S (KA q) s.heap H locs → W p l e (headSpec wsK_register { frames := 0, cells := 0, slots := 0, locals := 0 }).room s m ([.ref (q 0), .int a1] : List Value).toArray below meth c H locs 0 0 (MQ below (va_Qi (fun r u => (u, r) = k_register σ0 a1) (KPost D q cA) (KA q)) ([.ref (q 0), .int a1] : List Value).toArray s 0 0 (KA q)) (F0 m 127 ls [.int y0]) := by
    intro H locs ls σ y0 hE hl hP hB hS
    exact W.iret (v := y0) hx hb hr (fun t ht hW => ⟨⟨y0, σ, rfl, hE.symm, ⟨by rw [ht]; exact hP, hB⟩⟩, hS.F ht⟩) hS.2.2 dK_register_127
  have b20 : ∀ (H : Heap) (locs : List Loc) (ls : Array Slot) (σ : St) (x1 : Int32), k_register σ0 a1 = k_register_20 σ x1 → lv_has ls 2 [(0, .ref (q 0)), (1, .int x1)] → va_P D vwCl (wsK q cA σ) H → KB σ → va_S (KA q) s.heap H locs → W p l e (headSpec wsK_register { frames := 0, cells := 0, slots := 0, locals := 0 }).room s m ([.ref (q 0), .int a1] : List Value).toArray below meth c H locs 0 0 (MQ below (va_Qi (fun r u => (u, r) = k_register σ0 a1) (KPost D q cA) (KA q)) ([.ref (q 0), .int a1] : List Value).toArray s 0 0 (KA q)) (F0 m 20 ls []) := by
    intro H locs ls σ x1 hE hl hP hB hS
    refine lv_iload_n hx hb dK_register_20 rfl (lv_at hl 1 rfl) ?_
    rcases Classical.em (x1 = 7) with h2 | h2
    · have hE := hE.trans (if_pos h2)
      refine lv_tableIn (tgt := 72) hx hb dK_register_21 (by rw [h2]; decide) (by rw [h2]; decide) (by rw [h2]; rfl) rfl ?_
      refine lv_aload_n hx hb dK_register_72 rfl (lv_at hl 0 rfl) ?_
      refine kget_0_5 hx hb hts inK hown hC hP (hts _ wK_f28) dK_register_73 ?_
      refine kget_6_3 hx hb hts inQ hown hC hP (hts _ wK_f61) dK_register_76 ?_
      exact W.iret (v := (σ 6 3)) hx hb hr (fun t ht hW => ⟨⟨(σ 6 3), σ, rfl, hE.symm, ⟨by rw [ht]; exact hP, hB⟩⟩, hS.F ht⟩) hS.2.2 dK_register_79
    have hE := hE.trans (if_neg h2)
    rcases Classical.em (x1 = 8) with h3 | h3
    · have hE := hE.trans (if_pos h3)
      refine lv_tableIn (tgt := 80) hx hb dK_register_21 (by rw [h3]; decide) (by rw [h3]; decide) (by rw [h3]; rfl) rfl ?_
      refine lv_aload_n hx hb dK_register_80 rfl (lv_at hl 0 rfl) ?_
      refine kget_0_5 hx hb hts inK hown hC hP (hts _ wK_f28) dK_register_81 ?_
      refine kget_6_1 hx hb hts inQ hown hC hP (hts _ wK_f67) dK_register_84 ?_
      exact W.iret (v := (σ 6 1)) hx hb hr (fun t ht hW => ⟨⟨(σ 6 1), σ, rfl, hE.symm, ⟨by rw [ht]; exact hP, hB⟩⟩, hS.F ht⟩) hS.2.2 dK_register_87
    have hE := hE.trans (if_neg h3)
    rcases Classical.em (x1 = 9) with h4 | h4
    · have hE := hE.trans (if_pos h4)
      refine lv_tableIn (tgt := 88) hx hb dK_register_21 (by rw [h4]; decide) (by rw [h4]; decide) (by rw [h4]; rfl) rfl ?_
      refine lv_aload_n hx hb dK_register_88 rfl (lv_at hl 0 rfl) ?_
      refine kget_0_5 hx hb hts inK hown hC hP (hts _ wK_f28) dK_register_89 ?_
      refine kget_6_2 hx hb hts inQ hown hC hP (hts _ wK_f70) dK_register_92 ?_
      exact W.iret (v := (σ 6 2)) hx hb hr (fun t ht hW => ⟨⟨(σ 6 2), σ, rfl, hE.symm, ⟨by rw [ht]; exact hP, hB⟩⟩, hS.F ht⟩) hS.2.2 dK_register_95
    have hE := hE.trans (if_neg h4)
    rcases Classical.em (x1 = 10) with h5 | h5
    · have hE := hE.trans (if_pos h5)
      refine lv_tableIn (tgt := 96) hx hb dK_register_21 (by rw [h5]; decide) (by rw [h5]; decide) (by rw [h5]; rfl) rfl ?_
      refine lv_aload_n hx hb dK_register_96 rfl (lv_at hl 0 rfl) ?_
      refine kget_0_5 hx hb hts inK hown hC hP (hts _ wK_f28) dK_register_97 ?_
      refine kget_6_4 hx hb hts inQ hown hC hP (hts _ wK_f88) dK_register_100 ?_
      have z6 : zb (σ 6 4) := KB_6_4 hB
      refine lv_if_eq (tgt := 110) hx hb dK_register_103 rfl (fun h7 => ?_) (fun h7 => ?_)
      · have hE := hE.trans (if_pos h7)
        refine lv_iconst (v := 0) hx hb dK_register_110 (by decide) ?_
        have hl := lv_sub hl [] rfl
        exact b111 _ _ _ _ 0 hE hl hP hB hS
      · have hE := hE.trans (if_neg h7)
        refine lv_iconst (v := 1) hx hb dK_register_106 (by decide) ?_
        refine lv_goto (tgt := 111) hx hb dK_register_107 rfl ?_
        have hl := lv_sub hl [] rfl
        exact b111 _ _ _ _ 1 hE hl hP hB hS
    have hE := hE.trans (if_neg h5)
    rcases Classical.em (x1 = 11) with h8 | h8
    · have hE := hE.trans (if_pos h8)
      refine lv_tableIn (tgt := 112) hx hb dK_register_21 (by rw [h8]; decide) (by rw [h8]; decide) (by rw [h8]; rfl) rfl ?_
      refine lv_aload_n hx hb dK_register_112 rfl (lv_at hl 0 rfl) ?_
      refine kget_0_5 hx hb hts inK hown hC hP (hts _ wK_f28) dK_register_113 ?_
      refine kget_6_5 hx hb hts inQ hown hC hP (hts _ wK_f64) dK_register_116 ?_
      have z9 : zb (σ 6 5) := KB_6_5 hB
      refine lv_if_eq (tgt := 126) hx hb dK_register_119 rfl (fun h10 => ?_) (fun h10 => ?_)
      · have hE := hE.trans (if_pos h10)
        refine lv_iconst (v := 0) hx hb dK_register_126 (by decide) ?_
        have hl := lv_sub hl [] rfl
        exact b127 _ _ _ _ 0 hE hl hP hB hS
      · have hE := hE.trans (if_neg h10)
        refine lv_iconst (v := 1) hx hb dK_register_122 (by decide) ?_
        refine lv_goto (tgt := 127) hx hb dK_register_123 rfl ?_
        have hl := lv_sub hl [] rfl
        exact b127 _ _ _ _ 1 hE hl hP hB hS
    have hE := hE.trans (if_neg h8)
    rcases Classical.em (x1 = 12) with h11 | h11
    · have hE := hE.trans (if_pos h11)
      refine lv_tableIn (tgt := 128) hx hb dK_register_21 (by rw [h11]; decide) (by rw [h11]; decide) (by rw [h11]; rfl) rfl ?_
      refine lv_aload_n hx hb dK_register_128 rfl (lv_at hl 0 rfl) ?_
      refine kget_0_5 hx hb hts inK hown hC hP (hts _ wK_f28) dK_register_129 ?_
      refine kget_6_6 hx hb hts inQ hown hC hP (hts _ wK_f73) dK_register_132 ?_
      exact W.iret (v := (σ 6 6)) hx hb hr (fun t ht hW => ⟨⟨(σ 6 6), σ, rfl, hE.symm, ⟨by rw [ht]; exact hP, hB⟩⟩, hS.F ht⟩) hS.2.2 dK_register_135
    have hE := hE.trans (if_neg h11)
    rcases Classical.em (x1 = 13) with h12 | h12
    · have hE := hE.trans (if_pos h12)
      refine lv_tableIn (tgt := 136) hx hb dK_register_21 (by rw [h12]; decide) (by rw [h12]; decide) (by rw [h12]; rfl) rfl ?_
      refine lv_aload_n hx hb dK_register_136 rfl (lv_at hl 0 rfl) ?_
      refine kget_0_11 hx hb hts inK hown hC hP (hts _ wK_f76) dK_register_137 ?_
      exact W.iret (v := (σ 0 11)) hx hb hr (fun t ht hW => ⟨⟨(σ 0 11), σ, rfl, hE.symm, ⟨by rw [ht]; exact hP, hB⟩⟩, hS.F ht⟩) hS.2.2 dK_register_140
    have hE := hE.trans (if_neg h12)
    rcases Classical.em (x1 = 14) with h13 | h13
    · have hE := hE.trans (if_pos h13)
      refine lv_tableIn (tgt := 141) hx hb dK_register_21 (by rw [h13]; decide) (by rw [h13]; decide) (by rw [h13]; rfl) rfl ?_
      refine lv_aload_n hx hb dK_register_141 rfl (lv_at hl 0 rfl) ?_
      refine kget_0_12 hx hb hts inK hown hC hP (hts _ wK_f79) dK_register_142 ?_
      exact W.iret (v := (σ 0 12)) hx hb hr (fun t ht hW => ⟨⟨(σ 0 12), σ, rfl, hE.symm, ⟨by rw [ht]; exact hP, hB⟩⟩, hS.F ht⟩) hS.2.2 dK_register_145
    have hE := hE.trans (if_neg h13)
    rcases Classical.em (x1 = 15) with h14 | h14
    · have hE := hE.trans (if_pos h14)
      refine lv_tableIn (tgt := 146) hx hb dK_register_21 (by rw [h14]; decide) (by rw [h14]; decide) (by rw [h14]; rfl) rfl ?_
      refine lv_aload_n hx hb dK_register_146 rfl (lv_at hl 0 rfl) ?_
      refine kget_0_13 hx hb hts inK hown hC hP (hts _ wK_f91) dK_register_147 ?_
      exact W.iret (v := (σ 0 13)) hx hb hr (fun t ht hW => ⟨⟨(σ 0 13), σ, rfl, hE.symm, ⟨by rw [ht]; exact hP, hB⟩⟩, hS.F ht⟩) hS.2.2 dK_register_150
    have hE := hE.trans (if_neg h14)
    · refine lv_tableOut (tgt := 151) hx hb dK_register_21 (by have n0 := ne_t 7 7 (by decide) h2; have n1 := ne_t 8 8 (by decide) h3; have n2 := ne_t 9 9 (by decide) h4; have n3 := ne_t 10 10 (by decide) h5; have n4 := ne_t 11 11 (by decide) h8; have n5 := ne_t 12 12 (by decide) h11; have n6 := ne_t 13 13 (by decide) h12; have n7 := ne_t 14 14 (by decide) h13; have n8 := ne_t 15 15 (by decide) h14; omega) rfl ?_
      refine lv_iconst (v := (-1)) hx hb dK_register_151 (by decide) ?_
      exact W.iret (v := (-1)) hx hb hr (fun t ht hW => ⟨⟨(-1), σ, rfl, hE.symm, ⟨by rw [ht]; exact hP, hB⟩⟩, hS.F ht⟩) hS.2.2 dK_register_152
  refine lv_iload_n hx hb dK_register_0 rfl (lv_at hl 1 rfl) ?_
  refine lv_if_lt (tgt := 20) hx hb dK_register_1 rfl (fun h1 => ?_) (fun h1 => ?_)
  · have hE := hE.trans (if_pos h1)
    exact b20 _ _ _ _ a1 hE hl hP hB hS
  · have hE := hE.trans (if_neg h1)
    refine lv_iload_n hx hb dK_register_4 rfl (lv_at hl 1 rfl) ?_
    refine lv_bipush (v := 6) hx hb dK_register_5 (by decide) ?_
    refine lv_icmp_gt (tgt := 20) hx hb dK_register_7 rfl (fun h15 => ?_) (fun h15 => ?_)
    · have hE := hE.trans (if_pos h15)
      exact b20 _ _ _ _ a1 hE hl hP hB hS
    · have hE := hE.trans (if_neg h15)
      refine lv_aload_n hx hb dK_register_10 rfl (lv_at hl 0 rfl) ?_
      refine kget_0_5 hx hb hts inK hown hC hP (hts _ wK_f28) dK_register_11 ?_
      refine kget_6_0 hx hb hts inQ hown hC hP (hts _ wK_f82) dK_register_14 ?_
      refine lv_iload_n hx hb dK_register_17 rfl (lv_at hl 1 rfl) ?_
      refine kald_8 hx hb hC hP (vin_ngt h1 h15 (by decide)) dK_register_18 ?_
      exact W.iret (v := (σ0 8 (ix a1))) hx hb hr (fun t ht hW => ⟨⟨(σ0 8 (ix a1)), σ0, rfl, hE.symm, ⟨by rw [ht]; exact hP, hB⟩⟩, hS.F ht⟩) hS.2.2 dK_register_19
set_option maxRecDepth 100000 in
set_option maxHeartbeats 4000000 in
theorem c_k_kind (l : Launch) (D : va_G) (q : Nat → Nat) (cA : ClassId) (tN : Nat) (σ0 : St) (a1 : Int32) : Met l yK_kind wsK_kind { frames := 0, cells := 0, slots := 0, locals := 0 } (va_Pc [.ref (q 0), .int a1] (KPre D q cA tN σ0)) (va_Qi (fun r u => (u, r) = k_kind σ0 a1) (KPost D q cA) (KA q)) 0 0 (KA q) := by
  refine Met.ofW (cc := cK_kind) (maxL := 2) (ret := (some .int)) (by decide) rfl ?_
  intro p e s m args below meth c s₁ B hml hv
  obtain ⟨rfl, hP, hB, hC⟩ := hv
  have hx := B.exec
  have hb := B.bytes
  have hr := B.returns
  have hts : ∀ w ∈ gw, w.before ([.ref (q 0), .int a1] : List Value).toArray s = true := fun w h => atoms_spec (ws := wsK_kind) B.pre w (List.mem_cons_of_mem _ h)
  have hown : s.vm.findClass RK = some m.cls := findClass_of_methodNamed B.named
  have hlocks := B.notSynchronized
  have hS : va_S (KA q) s.heap s.heap [] := va_S.rf
  have hl := lv_entry ([.ref (q 0), .int a1]) (n := 2) (Nat.le_of_ble_eq_true rfl)
  rw [lg_entry_eq]
  generalize (lg_sl ([.ref (q 0), .int a1]) ++ List.replicate (2 - (lg_sl ([.ref (q 0), .int a1])).length) Slot.unset).toArray = ls at hl ⊢
  have hl : lv_has ls 2 [(0, .ref (q 0)), (1, .int a1)] := hl
  have hE : k_kind σ0 a1 = k_kind σ0 a1 := rfl
  refine lv_aload_n hx hb dK_kind_0 rfl (lv_at hl 0 rfl) ?_
  refine kget_0_1 hx hb hts inK hown hC hP (hts _ wK_f13) dK_kind_1 ?_
  refine lv_iload_n hx hb dK_kind_4 rfl (lv_at hl 1 rfl) ?_
  refine lv_sipush (v := 255) hx hb dK_kind_5 (by decide) ?_
  refine lv_iand hx hb dK_kind_8 ?_
  refine kald_2 hx hb hC hP (vin_m 8 (by decide) (by decide) (by decide)) dK_kind_9 ?_
  exact W.iret (v := (σ0 2 (ix (a1 &&& 255)))) hx hb hr (fun t ht hW => ⟨⟨(σ0 2 (ix (a1 &&& 255))), σ0, rfl, hE.symm, ⟨by rw [ht]; exact hP, hB⟩⟩, hS.F ht⟩) hS.2.2 dK_kind_10
set_option maxRecDepth 100000 in
set_option maxHeartbeats 4000000 in
theorem c_k_kindByRegions (l : Launch) (D : va_G) (q : Nat → Nat) (cA : ClassId) (tN : Nat) (σ0 : St) (a1 : Int32) : Met l yK_kindByRegions wsK_kindByRegions { frames := 0, cells := 0, slots := 0, locals := 0 } (va_Pc [.ref (q 0), .int a1] (KPre D q cA tN σ0)) (va_Qi (fun r u => (u, r) = k_kindByRegions σ0 a1) (KPost D q cA) (KA q)) 0 0 (KA q) := by
  refine Met.ofW (cc := cK_kindByRegions) (maxL := 5) (ret := (some .int)) (by decide) rfl ?_
  intro p e s m args below meth c s₁ B hml hv
  obtain ⟨rfl, hP, hB, hC⟩ := hv
  have hx := B.exec
  have hb := B.bytes
  have hr := B.returns
  have hts : ∀ w ∈ gw, w.before ([.ref (q 0), .int a1] : List Value).toArray s = true := fun w h => atoms_spec (ws := wsK_kindByRegions) B.pre w (List.mem_cons_of_mem _ h)
  have hown : s.vm.findClass RK = some m.cls := findClass_of_methodNamed B.named
  have hlocks := B.notSynchronized
  have hS : va_S (KA q) s.heap s.heap [] := va_S.rf
  have hl := lv_entry ([.ref (q 0), .int a1]) (n := 5) (Nat.le_of_ble_eq_true rfl)
  rw [lg_entry_eq]
  generalize (lg_sl ([.ref (q 0), .int a1]) ++ List.replicate (5 - (lg_sl ([.ref (q 0), .int a1])).length) Slot.unset).toArray = ls at hl ⊢
  have hl : lv_has ls 5 [(0, .ref (q 0)), (1, .int a1)] := hl
  have hE : k_kindByRegions σ0 a1 = k_kindByRegions σ0 a1 := rfl
  have b72 : ∀ (H : Heap) (locs : List Loc) (ls : Array Slot) (σ : St) (y0 : Int32), k_kindByRegions σ0 a1 = k_kindByRegions_72 σ y0 → lv_has ls 5 [] → va_P D vwCl (wsK q cA σ) H → KB σ → va_S (KA q) s.heap H locs → W p l e (headSpec wsK_kindByRegions { frames := 0, cells := 0, slots := 0, locals := 0 }).room s m ([.ref (q 0), .int a1] : List Value).toArray below meth c H locs 0 0 (MQ below (va_Qi (fun r u => (u, r) = k_kindByRegions σ0 a1) (KPost D q cA) (KA q)) ([.ref (q 0), .int a1] : List Value).toArray s 0 0 (KA q)) (F0 m 72 ls [.int y0]) := by
    intro H locs ls σ y0 hE hl hP hB hS
    exact W.iret (v := y0) hx hb hr (fun t ht hW => ⟨⟨y0, σ, rfl, hE.symm, ⟨by rw [ht]; exact hP, hB⟩⟩, hS.F ht⟩) hS.2.2 dK_kindByRegions_72
  have b7_4 : ∀ (H : Heap) (locs : List Loc) (ls : Array Slot) (σ : St) (x1 : Int32) (x2 : Int32) (x3 : Int32), k_kindByRegions σ0 a1 = k_kindByRegions_7_4 σ x1 x2 x3 → lv_has ls 5 [(0, .ref (q 0)), (1, .int x1), (2, .int x2), (3, .int x3), (4, .int 4)] → va_P D vwCl (wsK q cA σ) H → KB σ → va_S (KA q) s.heap H locs → W p l e (headSpec wsK_kindByRegions { frames := 0, cells := 0, slots := 0, locals := 0 }).room s m ([.ref (q 0), .int a1] : List Value).toArray below meth c H locs 0 0 (MQ below (va_Qi (fun r u => (u, r) = k_kindByRegions σ0 a1) (KPost D q cA) (KA q)) ([.ref (q 0), .int a1] : List Value).toArray s 0 0 (KA q)) (F0 m 7 ls []) := by
    intro H locs ls σ x1 x2 x3 hE hl hP hB hS
    refine lv_iload hx hb dK_kindByRegions_7 (lv_at hl 4 rfl) ?_
    refine lv_iconst (v := 4) hx hb dK_kindByRegions_9 (by decide) ?_
    refine lv_icmp_ge (tgt := 62) hx hb dK_kindByRegions_10 rfl (fun _ => ?_) (fun h9 => absurd (by decide) h9)
    refine lv_iload_n hx hb dK_kindByRegions_62 rfl (lv_at hl 3 rfl) ?_
    refine lv_iconst (v := 1) hx hb dK_kindByRegions_63 (by decide) ?_
    refine lv_icmp_ne (tgt := 71) hx hb dK_kindByRegions_64 rfl (fun h10 => ?_) (fun h10 => ?_)
    · have hE := hE.trans (if_neg h10)
      refine lv_iconst (v := 0) hx hb dK_kindByRegions_71 (by decide) ?_
      have hl := lv_sub hl [] rfl
      exact b72 _ _ _ _ 0 hE hl hP hB hS
    · have hE := hE.trans (if_pos h10)
      refine lv_iload_n hx hb dK_kindByRegions_67 rfl (lv_at hl 2 rfl) ?_
      refine lv_goto (tgt := 72) hx hb dK_kindByRegions_68 rfl ?_
      have hl := lv_sub hl [] rfl
      exact b72 _ _ _ _ x2 hE hl hP hB hS
  have b56_3 : ∀ (H : Heap) (locs : List Loc) (ls : Array Slot) (σ : St) (x1 : Int32) (x2 : Int32) (x3 : Int32), k_kindByRegions σ0 a1 = k_kindByRegions_56_3 σ x1 x2 x3 → lv_has ls 5 [(0, .ref (q 0)), (1, .int x1), (2, .int x2), (3, .int x3), (4, .int 3)] → va_P D vwCl (wsK q cA σ) H → KB σ → va_S (KA q) s.heap H locs → W p l e (headSpec wsK_kindByRegions { frames := 0, cells := 0, slots := 0, locals := 0 }).room s m ([.ref (q 0), .int a1] : List Value).toArray below meth c H locs 0 0 (MQ below (va_Qi (fun r u => (u, r) = k_kindByRegions σ0 a1) (KPost D q cA) (KA q)) ([.ref (q 0), .int a1] : List Value).toArray s 0 0 (KA q)) (F0 m 56 ls []) := by
    intro H locs ls σ x1 x2 x3 hE hl hP hB hS
    refine lv_iinc (k := 4) (v := 4) (lv' := [(4, .int 4), (0, .ref (q 0)), (1, .int x1), (2, .int x2), (3, .int x3)]) hx hb dK_kindByRegions_56 hl rfl (by decide) (by decide) rfl (fun ls hl => ?_)
    refine lv_goto (tgt := 7) hx hb dK_kindByRegions_59 rfl ?_
    have hl := lv_sub hl [1, 2, 3, 4, 0] rfl
    exact b7_4 _ _ _ _ x1 x2 x3 hE hl hP hB hS
  have b7_3 : ∀ (H : Heap) (locs : List Loc) (ls : Array Slot) (σ : St) (x1 : Int32) (x2 : Int32) (x3 : Int32), k_kindByRegions σ0 a1 = k_kindByRegions_7_3 σ x1 x2 x3 → lv_has ls 5 [(0, .ref (q 0)), (1, .int x1), (2, .int x2), (3, .int x3), (4, .int 3)] → va_P D vwCl (wsK q cA σ) H → KB σ → va_S (KA q) s.heap H locs → W p l e (headSpec wsK_kindByRegions { frames := 0, cells := 0, slots := 0, locals := 0 }).room s m ([.ref (q 0), .int a1] : List Value).toArray below meth c H locs 0 0 (MQ below (va_Qi (fun r u => (u, r) = k_kindByRegions σ0 a1) (KPost D q cA) (KA q)) ([.ref (q 0), .int a1] : List Value).toArray s 0 0 (KA q)) (F0 m 7 ls []) := by
    intro H locs ls σ x1 x2 x3 hE hl hP hB hS
    refine lv_iload hx hb dK_kindByRegions_7 (lv_at hl 4 rfl) ?_
    refine lv_iconst (v := 4) hx hb dK_kindByRegions_9 (by decide) ?_
    refine lv_icmp_ge (tgt := 62) hx hb dK_kindByRegions_10 rfl (fun h7 => absurd h7 (by decide)) (fun _ => ?_)
    refine lv_aload_n hx hb dK_kindByRegions_13 rfl (lv_at hl 0 rfl) ?_
    refine kget_0_4 hx hb hts inK hown hC hP (hts _ wK_f22) dK_kindByRegions_14 ?_
    refine lv_iload hx hb dK_kindByRegions_17 (lv_at hl 4 rfl) ?_
    refine kald_5 hx hb hC hP (vin_c (by decide)) dK_kindByRegions_19 ?_
    refine lv_if_eq (tgt := 56) hx hb dK_kindByRegions_20 rfl (fun h8 => ?_) (fun h8 => ?_)
    · have hE := hE.trans (if_pos h8)
      exact b56_3 _ _ _ _ x1 x2 x3 hE hl hP hB hS
    · have hE := hE.trans (if_neg h8)
      refine lv_aload_n hx hb dK_kindByRegions_23 rfl (lv_at hl 0 rfl) ?_
      refine kget_0_2 hx hb hts inK hown hC hP (hts _ wK_f16) dK_kindByRegions_24 ?_
      refine lv_iload hx hb dK_kindByRegions_27 (lv_at hl 4 rfl) ?_
      refine kald_3 hx hb hC hP (vin_c (by decide)) dK_kindByRegions_29 ?_
      refine lv_iload_n hx hb dK_kindByRegions_30 rfl (lv_at hl 1 rfl) ?_
      refine lv_icmp_gt (tgt := 56) hx hb dK_kindByRegions_31 rfl (fun h11 => ?_) (fun h11 => ?_)
      · have hE := hE.trans (if_pos h11)
        exact b56_3 _ _ _ _ x1 x2 x3 hE hl hP hB hS
      · have hE := hE.trans (if_neg h11)
        refine lv_iload_n hx hb dK_kindByRegions_34 rfl (lv_at hl 1 rfl) ?_
        refine lv_aload_n hx hb dK_kindByRegions_35 rfl (lv_at hl 0 rfl) ?_
        refine kget_0_3 hx hb hts inK hown hC hP (hts _ wK_f19) dK_kindByRegions_36 ?_
        refine lv_iload hx hb dK_kindByRegions_39 (lv_at hl 4 rfl) ?_
        refine kald_4 hx hb hC hP (vin_c (by decide)) dK_kindByRegions_41 ?_
        refine lv_icmp_gt (tgt := 56) hx hb dK_kindByRegions_42 rfl (fun h12 => ?_) (fun h12 => ?_)
        · have hE := hE.trans (if_pos h12)
          exact b56_3 _ _ _ _ x1 x2 x3 hE hl hP hB hS
        · have hE := hE.trans (if_neg h12)
          refine lv_aload_n hx hb dK_kindByRegions_45 rfl (lv_at hl 0 rfl) ?_
          refine kget_0_4 hx hb hts inK hown hC hP (hts _ wK_f22) dK_kindByRegions_46 ?_
          refine lv_iload hx hb dK_kindByRegions_49 (lv_at hl 4 rfl) ?_
          refine kald_5 hx hb hC hP (vin_c (by decide)) dK_kindByRegions_51 ?_
          refine lv_istore_n (lv' := [(2, .int (σ 5 (ix 3))), (0, .ref (q 0)), (1, .int x1), (3, .int x3), (4, .int 3)]) hx hb dK_kindByRegions_52 rfl hl (by decide) rfl (fun ls hl => ?_)
          refine lv_iinc (k := 3) (v := (x3 + 1)) (lv' := [(3, .int (x3 + 1)), (2, .int (σ 5 (ix 3))), (0, .ref (q 0)), (1, .int x1), (4, .int 3)]) hx hb dK_kindByRegions_53 hl rfl rfl (by decide) rfl (fun ls hl => ?_)
          have hl := lv_sub hl [2, 3, 1, 0, 4] rfl
          exact b56_3 _ _ _ _ x1 (σ 5 (ix 3)) (x3 + 1) hE hl hP hB hS
  have b56_2 : ∀ (H : Heap) (locs : List Loc) (ls : Array Slot) (σ : St) (x1 : Int32) (x2 : Int32) (x3 : Int32), k_kindByRegions σ0 a1 = k_kindByRegions_56_2 σ x1 x2 x3 → lv_has ls 5 [(0, .ref (q 0)), (1, .int x1), (2, .int x2), (3, .int x3), (4, .int 2)] → va_P D vwCl (wsK q cA σ) H → KB σ → va_S (KA q) s.heap H locs → W p l e (headSpec wsK_kindByRegions { frames := 0, cells := 0, slots := 0, locals := 0 }).room s m ([.ref (q 0), .int a1] : List Value).toArray below meth c H locs 0 0 (MQ below (va_Qi (fun r u => (u, r) = k_kindByRegions σ0 a1) (KPost D q cA) (KA q)) ([.ref (q 0), .int a1] : List Value).toArray s 0 0 (KA q)) (F0 m 56 ls []) := by
    intro H locs ls σ x1 x2 x3 hE hl hP hB hS
    refine lv_iinc (k := 4) (v := 3) (lv' := [(4, .int 3), (0, .ref (q 0)), (1, .int x1), (2, .int x2), (3, .int x3)]) hx hb dK_kindByRegions_56 hl rfl (by decide) (by decide) rfl (fun ls hl => ?_)
    refine lv_goto (tgt := 7) hx hb dK_kindByRegions_59 rfl ?_
    have hl := lv_sub hl [1, 2, 3, 4, 0] rfl
    exact b7_3 _ _ _ _ x1 x2 x3 hE hl hP hB hS
  have b7_2 : ∀ (H : Heap) (locs : List Loc) (ls : Array Slot) (σ : St) (x1 : Int32) (x2 : Int32) (x3 : Int32), k_kindByRegions σ0 a1 = k_kindByRegions_7_2 σ x1 x2 x3 → lv_has ls 5 [(0, .ref (q 0)), (1, .int x1), (2, .int x2), (3, .int x3), (4, .int 2)] → va_P D vwCl (wsK q cA σ) H → KB σ → va_S (KA q) s.heap H locs → W p l e (headSpec wsK_kindByRegions { frames := 0, cells := 0, slots := 0, locals := 0 }).room s m ([.ref (q 0), .int a1] : List Value).toArray below meth c H locs 0 0 (MQ below (va_Qi (fun r u => (u, r) = k_kindByRegions σ0 a1) (KPost D q cA) (KA q)) ([.ref (q 0), .int a1] : List Value).toArray s 0 0 (KA q)) (F0 m 7 ls []) := by
    intro H locs ls σ x1 x2 x3 hE hl hP hB hS
    refine lv_iload hx hb dK_kindByRegions_7 (lv_at hl 4 rfl) ?_
    refine lv_iconst (v := 4) hx hb dK_kindByRegions_9 (by decide) ?_
    refine lv_icmp_ge (tgt := 62) hx hb dK_kindByRegions_10 rfl (fun h5 => absurd h5 (by decide)) (fun _ => ?_)
    refine lv_aload_n hx hb dK_kindByRegions_13 rfl (lv_at hl 0 rfl) ?_
    refine kget_0_4 hx hb hts inK hown hC hP (hts _ wK_f22) dK_kindByRegions_14 ?_
    refine lv_iload hx hb dK_kindByRegions_17 (lv_at hl 4 rfl) ?_
    refine kald_5 hx hb hC hP (vin_c (by decide)) dK_kindByRegions_19 ?_
    refine lv_if_eq (tgt := 56) hx hb dK_kindByRegions_20 rfl (fun h6 => ?_) (fun h6 => ?_)
    · have hE := hE.trans (if_pos h6)
      exact b56_2 _ _ _ _ x1 x2 x3 hE hl hP hB hS
    · have hE := hE.trans (if_neg h6)
      refine lv_aload_n hx hb dK_kindByRegions_23 rfl (lv_at hl 0 rfl) ?_
      refine kget_0_2 hx hb hts inK hown hC hP (hts _ wK_f16) dK_kindByRegions_24 ?_
      refine lv_iload hx hb dK_kindByRegions_27 (lv_at hl 4 rfl) ?_
      refine kald_3 hx hb hC hP (vin_c (by decide)) dK_kindByRegions_29 ?_
      refine lv_iload_n hx hb dK_kindByRegions_30 rfl (lv_at hl 1 rfl) ?_
      refine lv_icmp_gt (tgt := 56) hx hb dK_kindByRegions_31 rfl (fun h13 => ?_) (fun h13 => ?_)
      · have hE := hE.trans (if_pos h13)
        exact b56_2 _ _ _ _ x1 x2 x3 hE hl hP hB hS
      · have hE := hE.trans (if_neg h13)
        refine lv_iload_n hx hb dK_kindByRegions_34 rfl (lv_at hl 1 rfl) ?_
        refine lv_aload_n hx hb dK_kindByRegions_35 rfl (lv_at hl 0 rfl) ?_
        refine kget_0_3 hx hb hts inK hown hC hP (hts _ wK_f19) dK_kindByRegions_36 ?_
        refine lv_iload hx hb dK_kindByRegions_39 (lv_at hl 4 rfl) ?_
        refine kald_4 hx hb hC hP (vin_c (by decide)) dK_kindByRegions_41 ?_
        refine lv_icmp_gt (tgt := 56) hx hb dK_kindByRegions_42 rfl (fun h14 => ?_) (fun h14 => ?_)
        · have hE := hE.trans (if_pos h14)
          exact b56_2 _ _ _ _ x1 x2 x3 hE hl hP hB hS
        · have hE := hE.trans (if_neg h14)
          refine lv_aload_n hx hb dK_kindByRegions_45 rfl (lv_at hl 0 rfl) ?_
          refine kget_0_4 hx hb hts inK hown hC hP (hts _ wK_f22) dK_kindByRegions_46 ?_
          refine lv_iload hx hb dK_kindByRegions_49 (lv_at hl 4 rfl) ?_
          refine kald_5 hx hb hC hP (vin_c (by decide)) dK_kindByRegions_51 ?_
          refine lv_istore_n (lv' := [(2, .int (σ 5 (ix 2))), (0, .ref (q 0)), (1, .int x1), (3, .int x3), (4, .int 2)]) hx hb dK_kindByRegions_52 rfl hl (by decide) rfl (fun ls hl => ?_)
          refine lv_iinc (k := 3) (v := (x3 + 1)) (lv' := [(3, .int (x3 + 1)), (2, .int (σ 5 (ix 2))), (0, .ref (q 0)), (1, .int x1), (4, .int 2)]) hx hb dK_kindByRegions_53 hl rfl rfl (by decide) rfl (fun ls hl => ?_)
          have hl := lv_sub hl [2, 3, 1, 0, 4] rfl
          exact b56_2 _ _ _ _ x1 (σ 5 (ix 2)) (x3 + 1) hE hl hP hB hS
  have b56_1 : ∀ (H : Heap) (locs : List Loc) (ls : Array Slot) (σ : St) (x1 : Int32) (x2 : Int32) (x3 : Int32), k_kindByRegions σ0 a1 = k_kindByRegions_56_1 σ x1 x2 x3 → lv_has ls 5 [(0, .ref (q 0)), (1, .int x1), (2, .int x2), (3, .int x3), (4, .int 1)] → va_P D vwCl (wsK q cA σ) H → KB σ → va_S (KA q) s.heap H locs → W p l e (headSpec wsK_kindByRegions { frames := 0, cells := 0, slots := 0, locals := 0 }).room s m ([.ref (q 0), .int a1] : List Value).toArray below meth c H locs 0 0 (MQ below (va_Qi (fun r u => (u, r) = k_kindByRegions σ0 a1) (KPost D q cA) (KA q)) ([.ref (q 0), .int a1] : List Value).toArray s 0 0 (KA q)) (F0 m 56 ls []) := by
    intro H locs ls σ x1 x2 x3 hE hl hP hB hS
    refine lv_iinc (k := 4) (v := 2) (lv' := [(4, .int 2), (0, .ref (q 0)), (1, .int x1), (2, .int x2), (3, .int x3)]) hx hb dK_kindByRegions_56 hl rfl (by decide) (by decide) rfl (fun ls hl => ?_)
    refine lv_goto (tgt := 7) hx hb dK_kindByRegions_59 rfl ?_
    have hl := lv_sub hl [1, 2, 3, 4, 0] rfl
    exact b7_2 _ _ _ _ x1 x2 x3 hE hl hP hB hS
  have b7_1 : ∀ (H : Heap) (locs : List Loc) (ls : Array Slot) (σ : St) (x1 : Int32) (x2 : Int32) (x3 : Int32), k_kindByRegions σ0 a1 = k_kindByRegions_7_1 σ x1 x2 x3 → lv_has ls 5 [(0, .ref (q 0)), (1, .int x1), (2, .int x2), (3, .int x3), (4, .int 1)] → va_P D vwCl (wsK q cA σ) H → KB σ → va_S (KA q) s.heap H locs → W p l e (headSpec wsK_kindByRegions { frames := 0, cells := 0, slots := 0, locals := 0 }).room s m ([.ref (q 0), .int a1] : List Value).toArray below meth c H locs 0 0 (MQ below (va_Qi (fun r u => (u, r) = k_kindByRegions σ0 a1) (KPost D q cA) (KA q)) ([.ref (q 0), .int a1] : List Value).toArray s 0 0 (KA q)) (F0 m 7 ls []) := by
    intro H locs ls σ x1 x2 x3 hE hl hP hB hS
    refine lv_iload hx hb dK_kindByRegions_7 (lv_at hl 4 rfl) ?_
    refine lv_iconst (v := 4) hx hb dK_kindByRegions_9 (by decide) ?_
    refine lv_icmp_ge (tgt := 62) hx hb dK_kindByRegions_10 rfl (fun h3 => absurd h3 (by decide)) (fun _ => ?_)
    refine lv_aload_n hx hb dK_kindByRegions_13 rfl (lv_at hl 0 rfl) ?_
    refine kget_0_4 hx hb hts inK hown hC hP (hts _ wK_f22) dK_kindByRegions_14 ?_
    refine lv_iload hx hb dK_kindByRegions_17 (lv_at hl 4 rfl) ?_
    refine kald_5 hx hb hC hP (vin_c (by decide)) dK_kindByRegions_19 ?_
    refine lv_if_eq (tgt := 56) hx hb dK_kindByRegions_20 rfl (fun h4 => ?_) (fun h4 => ?_)
    · have hE := hE.trans (if_pos h4)
      exact b56_1 _ _ _ _ x1 x2 x3 hE hl hP hB hS
    · have hE := hE.trans (if_neg h4)
      refine lv_aload_n hx hb dK_kindByRegions_23 rfl (lv_at hl 0 rfl) ?_
      refine kget_0_2 hx hb hts inK hown hC hP (hts _ wK_f16) dK_kindByRegions_24 ?_
      refine lv_iload hx hb dK_kindByRegions_27 (lv_at hl 4 rfl) ?_
      refine kald_3 hx hb hC hP (vin_c (by decide)) dK_kindByRegions_29 ?_
      refine lv_iload_n hx hb dK_kindByRegions_30 rfl (lv_at hl 1 rfl) ?_
      refine lv_icmp_gt (tgt := 56) hx hb dK_kindByRegions_31 rfl (fun h15 => ?_) (fun h15 => ?_)
      · have hE := hE.trans (if_pos h15)
        exact b56_1 _ _ _ _ x1 x2 x3 hE hl hP hB hS
      · have hE := hE.trans (if_neg h15)
        refine lv_iload_n hx hb dK_kindByRegions_34 rfl (lv_at hl 1 rfl) ?_
        refine lv_aload_n hx hb dK_kindByRegions_35 rfl (lv_at hl 0 rfl) ?_
        refine kget_0_3 hx hb hts inK hown hC hP (hts _ wK_f19) dK_kindByRegions_36 ?_
        refine lv_iload hx hb dK_kindByRegions_39 (lv_at hl 4 rfl) ?_
        refine kald_4 hx hb hC hP (vin_c (by decide)) dK_kindByRegions_41 ?_
        refine lv_icmp_gt (tgt := 56) hx hb dK_kindByRegions_42 rfl (fun h16 => ?_) (fun h16 => ?_)
        · have hE := hE.trans (if_pos h16)
          exact b56_1 _ _ _ _ x1 x2 x3 hE hl hP hB hS
        · have hE := hE.trans (if_neg h16)
          refine lv_aload_n hx hb dK_kindByRegions_45 rfl (lv_at hl 0 rfl) ?_
          refine kget_0_4 hx hb hts inK hown hC hP (hts _ wK_f22) dK_kindByRegions_46 ?_
          refine lv_iload hx hb dK_kindByRegions_49 (lv_at hl 4 rfl) ?_
          refine kald_5 hx hb hC hP (vin_c (by decide)) dK_kindByRegions_51 ?_
          refine lv_istore_n (lv' := [(2, .int (σ 5 (ix 1))), (0, .ref (q 0)), (1, .int x1), (3, .int x3), (4, .int 1)]) hx hb dK_kindByRegions_52 rfl hl (by decide) rfl (fun ls hl => ?_)
          refine lv_iinc (k := 3) (v := (x3 + 1)) (lv' := [(3, .int (x3 + 1)), (2, .int (σ 5 (ix 1))), (0, .ref (q 0)), (1, .int x1), (4, .int 1)]) hx hb dK_kindByRegions_53 hl rfl rfl (by decide) rfl (fun ls hl => ?_)
          have hl := lv_sub hl [2, 3, 1, 0, 4] rfl
          exact b56_1 _ _ _ _ x1 (σ 5 (ix 1)) (x3 + 1) hE hl hP hB hS
  have b56_0 : ∀ (H : Heap) (locs : List Loc) (ls : Array Slot) (σ : St) (x1 : Int32) (x2 : Int32) (x3 : Int32), k_kindByRegions σ0 a1 = k_kindByRegions_56_0 σ x1 x2 x3 → lv_has ls 5 [(0, .ref (q 0)), (1, .int x1), (2, .int x2), (3, .int x3), (4, .int 0)] → va_P D vwCl (wsK q cA σ) H → KB σ → va_S (KA q) s.heap H locs → W p l e (headSpec wsK_kindByRegions { frames := 0, cells := 0, slots := 0, locals := 0 }).room s m ([.ref (q 0), .int a1] : List Value).toArray below meth c H locs 0 0 (MQ below (va_Qi (fun r u => (u, r) = k_kindByRegions σ0 a1) (KPost D q cA) (KA q)) ([.ref (q 0), .int a1] : List Value).toArray s 0 0 (KA q)) (F0 m 56 ls []) := by
    intro H locs ls σ x1 x2 x3 hE hl hP hB hS
    refine lv_iinc (k := 4) (v := 1) (lv' := [(4, .int 1), (0, .ref (q 0)), (1, .int x1), (2, .int x2), (3, .int x3)]) hx hb dK_kindByRegions_56 hl rfl (by decide) (by decide) rfl (fun ls hl => ?_)
    refine lv_goto (tgt := 7) hx hb dK_kindByRegions_59 rfl ?_
    have hl := lv_sub hl [1, 2, 3, 4, 0] rfl
    exact b7_1 _ _ _ _ x1 x2 x3 hE hl hP hB hS
  have b7_0 : ∀ (H : Heap) (locs : List Loc) (ls : Array Slot) (σ : St) (x1 : Int32) (x2 : Int32) (x3 : Int32), k_kindByRegions σ0 a1 = k_kindByRegions_7_0 σ x1 x2 x3 → lv_has ls 5 [(0, .ref (q 0)), (1, .int x1), (2, .int x2), (3, .int x3), (4, .int 0)] → va_P D vwCl (wsK q cA σ) H → KB σ → va_S (KA q) s.heap H locs → W p l e (headSpec wsK_kindByRegions { frames := 0, cells := 0, slots := 0, locals := 0 }).room s m ([.ref (q 0), .int a1] : List Value).toArray below meth c H locs 0 0 (MQ below (va_Qi (fun r u => (u, r) = k_kindByRegions σ0 a1) (KPost D q cA) (KA q)) ([.ref (q 0), .int a1] : List Value).toArray s 0 0 (KA q)) (F0 m 7 ls []) := by
    intro H locs ls σ x1 x2 x3 hE hl hP hB hS
    refine lv_iload hx hb dK_kindByRegions_7 (lv_at hl 4 rfl) ?_
    refine lv_iconst (v := 4) hx hb dK_kindByRegions_9 (by decide) ?_
    refine lv_icmp_ge (tgt := 62) hx hb dK_kindByRegions_10 rfl (fun h1 => absurd h1 (by decide)) (fun _ => ?_)
    refine lv_aload_n hx hb dK_kindByRegions_13 rfl (lv_at hl 0 rfl) ?_
    refine kget_0_4 hx hb hts inK hown hC hP (hts _ wK_f22) dK_kindByRegions_14 ?_
    refine lv_iload hx hb dK_kindByRegions_17 (lv_at hl 4 rfl) ?_
    refine kald_5 hx hb hC hP (vin_c (by decide)) dK_kindByRegions_19 ?_
    refine lv_if_eq (tgt := 56) hx hb dK_kindByRegions_20 rfl (fun h2 => ?_) (fun h2 => ?_)
    · have hE := hE.trans (if_pos h2)
      exact b56_0 _ _ _ _ x1 x2 x3 hE hl hP hB hS
    · have hE := hE.trans (if_neg h2)
      refine lv_aload_n hx hb dK_kindByRegions_23 rfl (lv_at hl 0 rfl) ?_
      refine kget_0_2 hx hb hts inK hown hC hP (hts _ wK_f16) dK_kindByRegions_24 ?_
      refine lv_iload hx hb dK_kindByRegions_27 (lv_at hl 4 rfl) ?_
      refine kald_3 hx hb hC hP (vin_c (by decide)) dK_kindByRegions_29 ?_
      refine lv_iload_n hx hb dK_kindByRegions_30 rfl (lv_at hl 1 rfl) ?_
      refine lv_icmp_gt (tgt := 56) hx hb dK_kindByRegions_31 rfl (fun h17 => ?_) (fun h17 => ?_)
      · have hE := hE.trans (if_pos h17)
        exact b56_0 _ _ _ _ x1 x2 x3 hE hl hP hB hS
      · have hE := hE.trans (if_neg h17)
        refine lv_iload_n hx hb dK_kindByRegions_34 rfl (lv_at hl 1 rfl) ?_
        refine lv_aload_n hx hb dK_kindByRegions_35 rfl (lv_at hl 0 rfl) ?_
        refine kget_0_3 hx hb hts inK hown hC hP (hts _ wK_f19) dK_kindByRegions_36 ?_
        refine lv_iload hx hb dK_kindByRegions_39 (lv_at hl 4 rfl) ?_
        refine kald_4 hx hb hC hP (vin_c (by decide)) dK_kindByRegions_41 ?_
        refine lv_icmp_gt (tgt := 56) hx hb dK_kindByRegions_42 rfl (fun h18 => ?_) (fun h18 => ?_)
        · have hE := hE.trans (if_pos h18)
          exact b56_0 _ _ _ _ x1 x2 x3 hE hl hP hB hS
        · have hE := hE.trans (if_neg h18)
          refine lv_aload_n hx hb dK_kindByRegions_45 rfl (lv_at hl 0 rfl) ?_
          refine kget_0_4 hx hb hts inK hown hC hP (hts _ wK_f22) dK_kindByRegions_46 ?_
          refine lv_iload hx hb dK_kindByRegions_49 (lv_at hl 4 rfl) ?_
          refine kald_5 hx hb hC hP (vin_c (by decide)) dK_kindByRegions_51 ?_
          refine lv_istore_n (lv' := [(2, .int (σ 5 (ix 0))), (0, .ref (q 0)), (1, .int x1), (3, .int x3), (4, .int 0)]) hx hb dK_kindByRegions_52 rfl hl (by decide) rfl (fun ls hl => ?_)
          refine lv_iinc (k := 3) (v := (x3 + 1)) (lv' := [(3, .int (x3 + 1)), (2, .int (σ 5 (ix 0))), (0, .ref (q 0)), (1, .int x1), (4, .int 0)]) hx hb dK_kindByRegions_53 hl rfl rfl (by decide) rfl (fun ls hl => ?_)
          have hl := lv_sub hl [2, 3, 1, 0, 4] rfl
          exact b56_0 _ _ _ _ x1 (σ 5 (ix 0)) (x3 + 1) hE hl hP hB hS
  refine lv_iconst (v := 0) hx hb dK_kindByRegions_0 (by decide) ?_
  refine lv_istore_n (lv' := [(2, .int 0), (0, .ref (q 0)), (1, .int a1)]) hx hb dK_kindByRegions_1 rfl hl (by decide) rfl (fun ls hl => ?_)
  refine lv_iconst (v := 0) hx hb dK_kindByRegions_2 (by decide) ?_
  refine lv_istore_n (lv' := [(3, .int 0), (2, .int 0), (0, .ref (q 0)), (1, .int a1)]) hx hb dK_kindByRegions_3 rfl hl (by decide) rfl (fun ls hl => ?_)
  refine lv_iconst (v := 0) hx hb dK_kindByRegions_4 (by decide) ?_
  refine lv_istore (lv' := [(4, .int 0), (3, .int 0), (2, .int 0), (0, .ref (q 0)), (1, .int a1)]) hx hb dK_kindByRegions_5 hl (by decide) rfl (fun ls hl => ?_)
  have hl := lv_sub hl [3, 4, 2, 1, 0] rfl
  exact b7_0 _ _ _ _ a1 0 0 hE hl hP hB hS
set_option maxRecDepth 100000 in
set_option maxHeartbeats 4000000 in
theorem c_k_copy_76 (l : Launch) (D : va_G) (q : Nat → Nat) (cA : ClassId) (tN : Nat) (σ0 : St) : Met l yQ_copy wsQ_copy { frames := 1, cells := 0, slots := 0, locals := 40 } (va_Pc [.ref (q 7), .ref (q 6)] (KPre D q cA tN σ0)) (va_Qv (fun u => u = k_copy_76 σ0) (KPost D q cA) (KA q)) 0 0 (KA q) := by
  refine Met.ofW (cc := cQ_copy) (maxL := 2) (ret := none) (by decide) rfl ?_
  intro p e s m args below meth c s₁ B hml hv
  obtain ⟨rfl, hP, hB, hC⟩ := hv
  have hx := B.exec
  have hb := B.bytes
  have hr := B.returns
  have hts : ∀ w ∈ gw, w.before ([.ref (q 7), .ref (q 6)] : List Value).toArray s = true := fun w h => atoms_spec (ws := wsQ_copy) B.pre w (List.mem_cons_of_mem _ h)
  have hown : s.vm.findClass RQ = some m.cls := findClass_of_methodNamed B.named
  have hlocks := B.notSynchronized
  have hS : va_S (KA q) s.heap s.heap [] := va_S.rf
  have hl := lv_entry ([.ref (q 7), .ref (q 6)]) (n := 2) (Nat.le_of_ble_eq_true rfl)
  rw [lg_entry_eq]
  generalize (lg_sl ([.ref (q 7), .ref (q 6)]) ++ List.replicate (2 - (lg_sl ([.ref (q 7), .ref (q 6)])).length) Slot.unset).toArray = ls at hl ⊢
  have hl : lv_has ls 2 [(0, .ref (q 7)), (1, .ref (q 6))] := hl
  have hE : k_copy_76 σ0 = k_copy_76 σ0 := rfl
  refine lv_aload_n hx hb dQ_copy_0 rfl (lv_at hl 1 rfl) ?_
  refine kget_6_0 hx hb hts inQ hown hC hP (hts _ wQ_f9) dQ_copy_1 ?_
  refine lv_iconst (v := 0) hx hb dQ_copy_4 (by decide) ?_
  refine lv_aload_n hx hb dQ_copy_5 rfl (lv_at hl 0 rfl) ?_
  refine kget_7_0 hx hb hts inQ hown hC hP (hts _ wQ_f9) dQ_copy_6 ?_
  refine lv_iconst (v := 0) hx hb dQ_copy_9 (by decide) ?_
  refine lv_bipush (v := 8) hx hb dQ_copy_10 (by decide) ?_
  refine kcopy_8_9 hx hb (hml.trans hl.1.symm) hC hP hS hown (hts _ wQ_m22) (hts _ w_cpn) (hts _ w_cps) (hts _ w_cpi) (Nat.le_of_ble_eq_true rfl) (Nat.le_of_ble_eq_true rfl) dQ_copy_12 (fun σ1 H locs e1 hP hS => ?_)
  have hE := hE.trans (bd_e e1)
  have hB : KB σ1 := by rw [e1]; exact hB
  refine lv_aload_n hx hb dQ_copy_15 rfl (lv_at hl 0 rfl) ?_
  refine lv_aload_n hx hb dQ_copy_16 rfl (lv_at hl 1 rfl) ?_
  refine kget_6_1 hx hb hts inQ hown hC hP (hts _ wQ_f15) dQ_copy_17 ?_
  refine kput_7_1 hx hb hts inQ hown hC hP (hts _ wQ_f15) hS dQ_copy_20 (fun σ2 H locs e2 hP hS => ?_)
  have hE := hE.trans (bd_e e2)
  have hB : KB σ2 := by rw [e2]; exact hB
  refine lv_aload_n hx hb dQ_copy_23 rfl (lv_at hl 0 rfl) ?_
  refine lv_aload_n hx hb dQ_copy_24 rfl (lv_at hl 1 rfl) ?_
  refine kget_6_2 hx hb hts inQ hown hC hP (hts _ wQ_f19) dQ_copy_25 ?_
  refine kput_7_2 hx hb hts inQ hown hC hP (hts _ wQ_f19) hS dQ_copy_28 (fun σ3 H locs e3 hP hS => ?_)
  have hE := hE.trans (bd_e e3)
  have hB : KB σ3 := by rw [e3]; exact hB
  refine lv_aload_n hx hb dQ_copy_31 rfl (lv_at hl 0 rfl) ?_
  refine lv_aload_n hx hb dQ_copy_32 rfl (lv_at hl 1 rfl) ?_
  refine kget_6_3 hx hb hts inQ hown hC hP (hts _ wQ_f28) dQ_copy_33 ?_
  refine kput_7_3 hx hb hts inQ hown hC hP (hts _ wQ_f28) hS dQ_copy_36 (fun σ4 H locs e4 hP hS => ?_)
  have hE := hE.trans (bd_e e4)
  have hB : KB σ4 := by rw [e4]; exact hB
  refine lv_aload_n hx hb dQ_copy_39 rfl (lv_at hl 0 rfl) ?_
  refine lv_aload_n hx hb dQ_copy_40 rfl (lv_at hl 1 rfl) ?_
  refine kget_6_4 hx hb hts inQ hown hC hP (hts _ wQ_f31) dQ_copy_41 ?_
  have z5 : zb (σ4 6 4) := KB_6_4 hB
  refine kput_7_4 hx hb hts inQ hown hC hP (hts _ wQ_f31) hS z5 dQ_copy_44 (fun σ6 H locs e6 hP hS => ?_)
  have hE := hE.trans (bd_e e6)
  have hB : KB σ6 := by rw [e6]; exact KB_7_4s hB z5
  refine lv_aload_n hx hb dQ_copy_47 rfl (lv_at hl 0 rfl) ?_
  refine lv_aload_n hx hb dQ_copy_48 rfl (lv_at hl 1 rfl) ?_
  refine kget_6_5 hx hb hts inQ hown hC hP (hts _ wQ_f35) dQ_copy_49 ?_
  have z7 : zb (σ6 6 5) := KB_6_5 hB
  refine kput_7_5 hx hb hts inQ hown hC hP (hts _ wQ_f35) hS z7 dQ_copy_52 (fun σ8 H locs e8 hP hS => ?_)
  have hE := hE.trans (bd_e e8)
  have hB : KB σ8 := by rw [e8]; exact KB_7_5s hB z7
  refine lv_aload_n hx hb dQ_copy_55 rfl (lv_at hl 0 rfl) ?_
  refine lv_aload_n hx hb dQ_copy_56 rfl (lv_at hl 1 rfl) ?_
  refine kget_6_6 hx hb hts inQ hown hC hP (hts _ wQ_f38) dQ_copy_57 ?_
  refine kput_7_6 hx hb hts inQ hown hC hP (hts _ wQ_f38) hS dQ_copy_60 (fun σ9 H locs e9 hP hS => ?_)
  have hE := hE.trans (bd_e e9)
  have hB : KB σ9 := by rw [e9]; exact hB
  exact W.vret hx hb hr (fun t ht hW => ⟨⟨σ9, rfl, hE.symm, ⟨by rw [ht]; exact hP, hB⟩⟩, hS.F ht⟩) hS.2.2 dQ_copy_63
set_option maxRecDepth 100000 in
set_option maxHeartbeats 4000000 in
theorem c_k_stack (l : Launch) (D : va_G) (q : Nat → Nat) (cA : ClassId) (tN : Nat) (σ0 : St) : Met l yQ_stack wsQ_stack { frames := 0, cells := 0, slots := 0, locals := 0 } (va_Pc [.ref (q 6)] (KPre D q cA tN σ0)) (va_Qi (fun r u => (u, r) = k_stack σ0) (KPost D q cA) (KA q)) 0 0 (KA q) := by
  refine Met.ofW (cc := cQ_stack) (maxL := 1) (ret := (some .int)) (by decide) rfl ?_
  intro p e s m args below meth c s₁ B hml hv
  obtain ⟨rfl, hP, hB, hC⟩ := hv
  have hx := B.exec
  have hb := B.bytes
  have hr := B.returns
  have hts : ∀ w ∈ gw, w.before ([.ref (q 6)] : List Value).toArray s = true := fun w h => atoms_spec (ws := wsQ_stack) B.pre w (List.mem_cons_of_mem _ h)
  have hown : s.vm.findClass RQ = some m.cls := findClass_of_methodNamed B.named
  have hlocks := B.notSynchronized
  have hS : va_S (KA q) s.heap s.heap [] := va_S.rf
  have hl := lv_entry ([.ref (q 6)]) (n := 1) (Nat.le_of_ble_eq_true rfl)
  rw [lg_entry_eq]
  generalize (lg_sl ([.ref (q 6)]) ++ List.replicate (1 - (lg_sl ([.ref (q 6)])).length) Slot.unset).toArray = ls at hl ⊢
  have hl : lv_has ls 1 [(0, .ref (q 6))] := hl
  have hE : k_stack σ0 = k_stack σ0 := rfl
  have b18 : ∀ (H : Heap) (locs : List Loc) (ls : Array Slot) (σ : St) (y0 : Int32), k_stack σ0 = k_stack_18 σ y0 → lv_has ls 1 [] → va_P D vwCl (wsK q cA σ) H → KB σ → va_S (KA q) s.heap H locs → W p l e (headSpec wsQ_stack { frames := 0, cells := 0, slots := 0, locals := 0 }).room s m ([.ref (q 6)] : List Value).toArray below meth c H locs 0 0 (MQ below (va_Qi (fun r u => (u, r) = k_stack σ0) (KPost D q cA) (KA q)) ([.ref (q 6)] : List Value).toArray s 0 0 (KA q)) (F0 m 18 ls [.int y0]) := by
    intro H locs ls σ y0 hE hl hP hB hS
    exact W.iret (v := y0) hx hb hr (fun t ht hW => ⟨⟨y0, σ, rfl, hE.symm, ⟨by rw [ht]; exact hP, hB⟩⟩, hS.F ht⟩) hS.2.2 dQ_stack_18
  refine lv_aload_n hx hb dQ_stack_0 rfl (lv_at hl 0 rfl) ?_
  refine kget_6_5 hx hb hts inQ hown hC hP (hts _ wQ_f35) dQ_stack_1 ?_
  have z1 : zb (σ0 6 5) := KB_6_5 hB
  refine lv_if_eq (tgt := 14) hx hb dQ_stack_4 rfl (fun h2 => ?_) (fun h2 => ?_)
  · have hE := hE.trans (if_pos h2)
    refine lv_aload_n hx hb dQ_stack_14 rfl (lv_at hl 0 rfl) ?_
    refine kget_6_1 hx hb hts inQ hown hC hP (hts _ wQ_f15) dQ_stack_15 ?_
    have hl := lv_sub hl [] rfl
    exact b18 _ _ _ _ (σ0 6 1) hE hl hP hB hS
  · have hE := hE.trans (if_neg h2)
    refine lv_aload_n hx hb dQ_stack_7 rfl (lv_at hl 0 rfl) ?_
    refine kget_6_2 hx hb hts inQ hown hC hP (hts _ wQ_f19) dQ_stack_8 ?_
    refine lv_goto (tgt := 18) hx hb dQ_stack_11 rfl ?_
    have hl := lv_sub hl [] rfl
    exact b18 _ _ _ _ (σ0 6 2) hE hl hP hB hS
set_option maxRecDepth 100000 in
set_option maxHeartbeats 4000000 in
theorem c_k_setStack (l : Launch) (D : va_G) (q : Nat → Nat) (cA : ClassId) (tN : Nat) (σ0 : St) (a1 : Int32) : Met l yQ_setStack wsQ_setStack { frames := 0, cells := 0, slots := 0, locals := 0 } (va_Pc [.ref (q 6), .int a1] (KPre D q cA tN σ0)) (va_Qv (fun u => u = k_setStack σ0 a1) (KPost D q cA) (KA q)) 0 0 (KA q) := by
  refine Met.ofW (cc := cQ_setStack) (maxL := 2) (ret := none) (by decide) rfl ?_
  intro p e s m args below meth c s₁ B hml hv
  obtain ⟨rfl, hP, hB, hC⟩ := hv
  have hx := B.exec
  have hb := B.bytes
  have hr := B.returns
  have hts : ∀ w ∈ gw, w.before ([.ref (q 6), .int a1] : List Value).toArray s = true := fun w h => atoms_spec (ws := wsQ_setStack) B.pre w (List.mem_cons_of_mem _ h)
  have hown : s.vm.findClass RQ = some m.cls := findClass_of_methodNamed B.named
  have hlocks := B.notSynchronized
  have hS : va_S (KA q) s.heap s.heap [] := va_S.rf
  have hl := lv_entry ([.ref (q 6), .int a1]) (n := 2) (Nat.le_of_ble_eq_true rfl)
  rw [lg_entry_eq]
  generalize (lg_sl ([.ref (q 6), .int a1]) ++ List.replicate (2 - (lg_sl ([.ref (q 6), .int a1])).length) Slot.unset).toArray = ls at hl ⊢
  have hl : lv_has ls 2 [(0, .ref (q 6)), (1, .int a1)] := hl
  have hE : k_setStack σ0 a1 = k_setStack σ0 a1 := rfl
  have b20 : ∀ (H : Heap) (locs : List Loc) (ls : Array Slot) (σ : St), k_setStack σ0 a1 = k_setStack_20 σ → lv_has ls 2 [] → va_P D vwCl (wsK q cA σ) H → KB σ → va_S (KA q) s.heap H locs → W p l e (headSpec wsQ_setStack { frames := 0, cells := 0, slots := 0, locals := 0 }).room s m ([.ref (q 6), .int a1] : List Value).toArray below meth c H locs 0 0 (MQ below (va_Qv (fun u => u = k_setStack σ0 a1) (KPost D q cA) (KA q)) ([.ref (q 6), .int a1] : List Value).toArray s 0 0 (KA q)) (F0 m 20 ls []) := by
    intro H locs ls σ hE hl hP hB hS
    exact W.vret hx hb hr (fun t ht hW => ⟨⟨σ, rfl, hE.symm, ⟨by rw [ht]; exact hP, hB⟩⟩, hS.F ht⟩) hS.2.2 dQ_setStack_20
  refine lv_aload_n hx hb dQ_setStack_0 rfl (lv_at hl 0 rfl) ?_
  refine kget_6_5 hx hb hts inQ hown hC hP (hts _ wQ_f35) dQ_setStack_1 ?_
  have z1 : zb (σ0 6 5) := KB_6_5 hB
  refine lv_if_eq (tgt := 15) hx hb dQ_setStack_4 rfl (fun h2 => ?_) (fun h2 => ?_)
  · have hE := hE.trans (if_pos h2)
    refine lv_aload_n hx hb dQ_setStack_15 rfl (lv_at hl 0 rfl) ?_
    refine lv_iload_n hx hb dQ_setStack_16 rfl (lv_at hl 1 rfl) ?_
    refine kput_6_1 hx hb hts inQ hown hC hP (hts _ wQ_f15) hS dQ_setStack_17 (fun σ3 H locs e3 hP hS => ?_)
    have hE := hE.trans (bd_e e3)
    have hB : KB σ3 := by rw [e3]; exact hB
    have hl := lv_sub hl [] rfl
    exact b20 _ _ _ _ hE hl hP hB hS
  · have hE := hE.trans (if_neg h2)
    refine lv_aload_n hx hb dQ_setStack_7 rfl (lv_at hl 0 rfl) ?_
    refine lv_iload_n hx hb dQ_setStack_8 rfl (lv_at hl 1 rfl) ?_
    refine kput_6_2 hx hb hts inQ hown hC hP (hts _ wQ_f19) hS dQ_setStack_9 (fun σ4 H locs e4 hP hS => ?_)
    have hE := hE.trans (bd_e e4)
    have hB : KB σ4 := by rw [e4]; exact hB
    refine lv_goto (tgt := 20) hx hb dQ_setStack_12 rfl ?_
    have hl := lv_sub hl [] rfl
    exact b20 _ _ _ _ hE hl hP hB hS
