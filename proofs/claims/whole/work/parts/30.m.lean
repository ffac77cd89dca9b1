set_option maxRecDepth 100000 in
set_option maxHeartbeats 4000000 in
theorem c_m_poke (l : Launch) (D : va_G) (q : Nat → Nat) (cA : ClassId) (σ0 : St) (a1 : Int32) (a2 : Int32) : Met l yM_poke wsM_poke { frames := 0, cells := 0, slots := 0, locals := 0 } (va_Pc [.ref (q 0), .int a1, .int a2] (MPre D q cA σ0)) (va_Qi (fun r u => (u, r) = m_poke σ0 a1 a2) (MPost D q cA) (MA q)) 0 0 (MA q) := by
  refine Met.ofW (cc := cM_poke) (maxL := 4) (ret := (some .int)) (by decide) rfl ?_
  intro p e s m args below meth c s₁ B hml hv
  obtain ⟨rfl, hP, hB, hC⟩ := hv
  have hx := B.exec
  have hb := B.bytes
  have hr := B.returns
  have hts : ∀ w ∈ gw, w.before ([.ref (q 0), .int a1, .int a2] : List Value).toArray s = true := fun w h => atoms_spec (ws := wsM_poke) B.pre w (List.mem_cons_of_mem _ h)
  have hown : s.vm.findClass RM = some m.cls := findClass_of_methodNamed B.named
  have hlocks := B.notSynchronized
  have hS : va_S (MA q) s.heap s.heap [] := va_S.rf
  have hl := lv_entry ([.ref (q 0), .int a1, .int a2]) (n := 4) (Nat.le_of_ble_eq_true rfl)
  rw [lg_entry_eq]
  generalize (lg_sl ([.ref (q 0), .int a1, .int a2]) ++ List.replicate (4 - (lg_sl ([.ref (q 0), .int a1, .int a2])).length) Slot.unset).toArray = ls at hl ⊢
  have hl : lv_has ls 4 [(0, .ref (q 0)), (1, .int a1), (2, .int a2)] := hl
  have hE : m_poke σ0 a1 a2 = m_poke σ0 a1 a2 := rfl
  refine lv_aload_n hx hb dM_poke_0 rfl (lv_at hl 0 rfl) ?_
  refine mget_0_0 hx hb hts inM hown hC hP (hts _ wM_f7) dM_poke_1 ?_
  refine lv_iload_n hx hb dM_poke_4 rfl (lv_at hl 1 rfl) ?_
  refine lv_sipush (v := 255) hx hb dM_poke_5 (by decide) ?_
  refine lv_iand hx hb dM_poke_8 ?_
  refine mald_1 hx hb hC hP (vin_m 8 (by decide) (by decide) (by decide)) dM_poke_9 ?_
  refine lv_istore_n (lv' := [(3, .int (σ0 1 (ix (a1 &&& 255)))), (0, .ref (q 0)), (1, .int a1), (2, .int a2)]) hx hb dM_poke_10 rfl hl (by decide) rfl (fun ls hl => ?_)
  refine lv_aload_n hx hb dM_poke_11 rfl (lv_at hl 1 rfl) ?_
  refine mget_0_0 hx hb hts inM hown hC hP (hts _ wM_f7) dM_poke_12 ?_
  refine lv_iload_n hx hb dM_poke_15 rfl (lv_at hl 2 rfl) ?_
  refine lv_sipush (v := 255) hx hb dM_poke_16 (by decide) ?_
  refine lv_iand hx hb dM_poke_19 ?_
  refine lv_iload_n hx hb dM_poke_20 rfl (lv_at hl 3 rfl) ?_
  refine lv_ldc (v := 65535) hx hb hown (hts _ wM_c32) dM_poke_21 ?_
  refine lv_iand hx hb dM_poke_23 ?_
  refine mast_1 hx hb hC hP hS (vin_m 8 (by decide) (by decide) (by decide)) dM_poke_24 (fun σ1 H locs e1 hP hS => ?_)
  have hE := hE.trans (bd_e e1)
  have hB : MB σ1 := by rw [e1]; exact hB
  refine lv_iload_n hx hb dM_poke_25 rfl (lv_at hl 0 rfl) ?_
  exact W.iret (v := (σ0 1 (ix (a1 &&& 255)))) hx hb hr (fun t ht hW => ⟨⟨(σ0 1 (ix (a1 &&& 255))), σ1, rfl, hE.symm, ⟨by rw [ht]; exact hP, hB⟩⟩, hS.F ht⟩) hS.2.2 dM_poke_26
set_option maxRecDepth 100000 in
set_option maxHeartbeats 4000000 in
theorem c_m_fill (l : Launch) (D : va_G) (q : Nat → Nat) (cA : ClassId) (σ0 : St) (a1 : Int32) (a2 : Int64) : Met l yM_fill wsM_fill { frames := 0, cells := 0, slots := 0, locals := 0 } (va_Pc [.ref (q 0), .int a1, .long a2] (MPre D q cA σ0)) (va_Qi (fun r u => (u, r) = m_fill σ0 a1 a2 ∧ zb r) (MPost D q cA) (MA q)) 0 0 (MA q) := by
  refine Met.ofW (cc := cM_fill) (maxL := 5) (ret := (some .boolean)) (by decide) rfl ?_
  intro p e s m args below meth c s₁ B hml hv
  obtain ⟨rfl, hP, hB, hC⟩ := hv
  have hx := B.exec
  have hb := B.bytes
  have hr := B.returns
  have hts : ∀ w ∈ gw, w.before ([.ref (q 0), .int a1, .long a2] : List Value).toArray s = true := fun w h => atoms_spec (ws := wsM_fill) B.pre w (List.mem_cons_of_mem _ h)
  have hown : s.vm.findClass RM = some m.cls := findClass_of_methodNamed B.named
  have hlocks := B.notSynchronized
  have hS : va_S (MA q) s.heap s.heap [] := va_S.rf
  have hl := lv_entry ([.ref (q 0), .int a1, .long a2]) (n := 5) (Nat.le_of_ble_eq_true rfl)
  rw [lg_entry_eq]
  generalize (lg_sl ([.ref (q 0), .int a1, .long a2]) ++ List.replicate (5 - (lg_sl ([.ref (q 0), .int a1, .long a2])).length) Slot.unset).toArray = ls at hl ⊢
  have hl : lv_has ls 5 [(0, .ref (q 0)), (1, .int a1), (2, .long a2)] := hl
  have hE : m_fill σ0 a1 a2 = m_fill σ0 a1 a2 := rfl
  have b11 : ∀ (H : Heap) (locs : List Loc) (ls : Array Slot) (σ : St), m_fill σ0 a1 a2 = m_fill_11 σ → lv_has ls 5 [] → va_P D vwCl (wsM q cA σ) H → MB σ → va_S (MA q) s.heap H locs → W p l e (headSpec wsM_fill { frames := 0, cells := 0, slots := 0, locals := 0 }).room s m ([.ref (q 0), .int a1, .long a2] : List Value).toArray below meth c H locs 0 0 (MQ below (va_Qi (fun r u => (u, r) = m_fill σ0 a1 a2 ∧ zb r) (MPost D q cA) (MA q)) ([.ref (q 0), .int a1, .long a2] : List Value).toArray s 0 0 (MA q)) (F0 m 11 ls []) := by
    intro H locs ls σ hE hl hP hB hS
    refine lv_iconst (v := 0) hx hb dM_fill_11 (by decide) ?_
    exact W.zret (v := 0) hx hb hr (zb_n (by decide)).1 (fun t ht hW => ⟨⟨0, σ, rfl, ⟨hE.symm, (by decide)⟩, ⟨by rw [ht]; exact hP, hB⟩⟩, hS.F ht⟩) hS.2.2 dM_fill_12
  have b16_4 : ∀ (H : Heap) (locs : List Loc) (ls : Array Slot) (σ : St) (x1 : Int32) (x2 : Int64), m_fill σ0 a1 a2 = m_fill_16_4 σ x1 x2 → lv_has ls 5 [(0, .ref (q 0)), (1, .int x1), (2, .long x2), (4, .int 4)] → va_P D vwCl (wsM q cA σ) H → MB σ → va_S (MA q) s.heap H locs → W p l e (headSpec wsM_fill { frames := 0, cells := 0, slots := 0, locals := 0 }).room s m ([.ref (q 0), .int a1, .long a2] : List Value).toArray below meth c H locs 0 0 (MQ below (va_Qi (fun r u => (u, r) = m_fill σ0 a1 a2 ∧ zb r) (MPost D q cA) (MA q)) ([.ref (q 0), .int a1, .long a2] : List Value).toArray s 0 0 (MA q)) (F0 m 16 ls []) := by
    intro H locs ls σ x1 x2 hE hl hP hB hS
    refine lv_iload hx hb dM_fill_16 (lv_at hl 3 rfl) ?_
    refine lv_iconst (v := 4) hx hb dM_fill_18 (by decide) ?_
    refine lv_icmp_ge (tgt := 49) hx hb dM_fill_19 rfl (fun _ => ?_) (fun h11 => absurd (by decide) h11)
    refine lv_iconst (v := 1) hx hb dM_fill_49 (by decide) ?_
    exact W.zret (v := 1) hx hb hr (zb_n (by decide)).1 (fun t ht hW => ⟨⟨1, σ, rfl, ⟨hE.symm, (by decide)⟩, ⟨by rw [ht]; exact hP, hB⟩⟩, hS.F ht⟩) hS.2.2 dM_fill_50
  have b16_3 : ∀ (H : Heap) (locs : List Loc) (ls : Array Slot) (σ : St) (x1 : Int32) (x2 : Int64), bt0 x1 252 → m_fill σ0 a1 a2 = m_fill_16_3 σ x1 x2 → lv_has ls 5 [(0, .ref (q 0)), (1, .int x1), (2, .long x2), (4, .int 3)] → va_P D vwCl (wsM q cA σ) H → MB σ → va_S (MA q) s.heap H locs → W p l e (headSpec wsM_fill { frames := 0, cells := 0, slots := 0, locals := 0 }).room s m ([.ref (q 0), .int a1, .long a2] : List Value).toArray below meth c H locs 0 0 (MQ below (va_Qi (fun r u => (u, r) = m_fill σ0 a1 a2 ∧ zb r) (MPost D q cA) (MA q)) ([.ref (q 0), .int a1, .long a2] : List Value).toArray s 0 0 (MA q)) (F0 m 16 ls []) := by
    intro H locs ls σ x1 x2 hle252_x1 hE hl hP hB hS
    refine lv_iload hx hb dM_fill_16 (lv_at hl 3 rfl) ?_
    refine lv_iconst (v := 4) hx hb dM_fill_18 (by decide) ?_
    refine lv_icmp_ge (tgt := 49) hx hb dM_fill_19 rfl (fun h9 => absurd h9 (by decide)) (fun _ => ?_)
    refine lv_aload_n hx hb dM_fill_22 rfl (lv_at hl 0 rfl) ?_
    refine mget_0_0 hx hb hts inM hown hC hP (hts _ wM_f7) dM_fill_23 ?_
    refine lv_iload_n hx hb dM_fill_26 rfl (lv_at hl 1 rfl) ?_
    refine lv_iload hx hb dM_fill_27 (lv_at hl 3 rfl) ?_
    refine lv_iadd hx hb dM_fill_29 ?_
    refine lv_lload_n hx hb dM_fill_30 rfl (lv_at hl 2 rfl) ?_
    refine lv_bipush (v := 16) hx hb dM_fill_31 (by decide) ?_
    refine lv_iload hx hb dM_fill_33 (lv_at hl 3 rfl) ?_
    refine lv_imul hx hb dM_fill_35 ?_
    refine lv_lshr (v := (x2 >>> (((16 * 3) : Int32).toInt64 &&& 63))) hx hb dM_fill_36 rfl ?_
    refine lv_ldc2 (v := 65535) hx hb hown (hts _ wM_l33) dM_fill_37 ?_
    refine lv_land hx hb dM_fill_40 ?_
    refine lv_l2i (v := (((x2 >>> (((16 * 3) : Int32).toInt64 &&& 63)) &&& 65535) : Int64).toInt32) hx hb dM_fill_41 rfl ?_
    refine mast_1 hx hb hC hP hS (vin_add hle252_x1 (by decide)) dM_fill_42 (fun σ10 H locs e10 hP hS => ?_)
    have hE := hE.trans (bd_e e10)
    have hB : MB σ10 := by rw [e10]; exact hB
    refine lv_iinc (k := 3) (v := 4) (lv' := [(4, .int 4), (0, .ref (q 0)), (1, .int x1), (2, .long x2)]) hx hb dM_fill_43 hl rfl (by decide) (by decide) rfl (fun ls hl => ?_)
    refine lv_goto (tgt := 16) hx hb dM_fill_46 rfl ?_
    have hl := lv_sub hl [1, 2, 3, 0] rfl
    exact b16_4 _ _ _ _ x1 x2 hE hl hP hB hS
  have b16_2 : ∀ (H : Heap) (locs : List Loc) (ls : Array Slot) (σ : St) (x1 : Int32) (x2 : Int64), bt0 x1 252 → m_fill σ0 a1 a2 = m_fill_16_2 σ x1 x2 → lv_has ls 5 [(0, .ref (q 0)), (1, .int x1), (2, .long x2), (4, .int 2)] → va_P D vwCl (wsM q cA σ) H → MB σ → va_S (MA q) s.heap H locs → W p l e (headSpec wsM_fill { frames := 0, cells := 0, slots := 0, locals := 0 }).room s m ([.ref (q 0), .int a1, .long a2] : List Value).toArray below meth c H locs 0 0 (MQ below (va_Qi (fun r u => (u, r) = m_fill σ0 a1 a2 ∧ zb r) (MPost D q cA) (MA q)) ([.ref (q 0), .int a1, .long a2] : List Value).toArray s 0 0 (MA q)) (F0 m 16 ls []) := by
    intro H locs ls σ x1 x2 hle252_x1 hE hl hP hB hS
    refine lv_iload hx hb dM_fill_16 (lv_at hl 3 rfl) ?_
    refine lv_iconst (v := 4) hx hb dM_fill_18 (by decide) ?_
    refine lv_icmp_ge (tgt := 49) hx hb dM_fill_19 rfl (fun h7 => absurd h7 (by decide)) (fun _ => ?_)
    refine lv_aload_n hx hb dM_fill_22 rfl (lv_at hl 0 rfl) ?_
    refine mget_0_0 hx hb hts inM hown hC hP (hts _ wM_f7) dM_fill_23 ?_
    refine lv_iload_n hx hb dM_fill_26 rfl (lv_at hl 1 rfl) ?_
    refine lv_iload hx hb dM_fill_27 (lv_at hl 3 rfl) ?_
    refine lv_iadd hx hb dM_fill_29 ?_
    refine lv_lload_n hx hb dM_fill_30 rfl (lv_at hl 2 rfl) ?_
    refine lv_bipush (v := 16) hx hb dM_fill_31 (by decide) ?_
    refine lv_iload hx hb dM_fill_33 (lv_at hl 3 rfl) ?_
    refine lv_imul hx hb dM_fill_35 ?_
    refine lv_lshr (v := (x2 >>> (((16 * 2) : Int32).toInt64 &&& 63))) hx hb dM_fill_36 rfl ?_
    refine lv_ldc2 (v := 65535) hx hb hown (hts _ wM_l33) dM_fill_37 ?_
    refine lv_land hx hb dM_fill_40 ?_
    refine lv_l2i (v := (((x2 >>> (((16 * 2) : Int32).toInt64 &&& 63)) &&& 65535) : Int64).toInt32) hx hb dM_fill_41 rfl ?_
    refine mast_1 hx hb hC hP hS (vin_add hle252_x1 (by decide)) dM_fill_42 (fun σ8 H locs e8 hP hS => ?_)
    have hE := hE.trans (bd_e e8)
    have hB : MB σ8 := by rw [e8]; exact hB
    refine lv_iinc (k := 3) (v := 3) (lv' := [(4, .int 3), (0, .ref (q 0)), (1, .int x1), (2, .long x2)]) hx hb dM_fill_43 hl rfl (by decide) (by decide) rfl (fun ls hl => ?_)
    refine lv_goto (tgt := 16) hx hb dM_fill_46 rfl ?_
    have hl := lv_sub hl [1, 2, 3, 0] rfl
    exact b16_3 _ _ _ _ x1 x2 hle252_x1 hE hl hP hB hS
  have b16_1 : ∀ (H : Heap) (locs : List Loc) (ls : Array Slot) (σ : St) (x1 : Int32) (x2 : Int64), bt0 x1 252 → m_fill σ0 a1 a2 = m_fill_16_1 σ x1 x2 → lv_has ls 5 [(0, .ref (q 0)), (1, .int x1), (2, .long x2), (4, .int 1)] → va_P D vwCl (wsM q cA σ) H → MB σ → va_S (MA q) s.heap H locs → W p l e (headSpec wsM_fill { frames := 0, cells := 0, slots := 0, locals := 0 }).room s m ([.ref (q 0), .int a1, .long a2] : List Value).toArray below meth c H locs 0 0 (MQ below (va_Qi (fun r u => (u, r) = m_fill σ0 a1 a2 ∧ zb r) (MPost D q cA) (MA q)) ([.ref (q 0), .int a1, .long a2] : List Value).toArray s 0 0 (MA q)) (F0 m 16 ls []) := by
    intro H locs ls σ x1 x2 hle252_x1 hE hl hP hB hS
    refine lv_iload hx hb dM_fill_16 (lv_at hl 3 rfl) ?_
    refine lv_iconst (v := 4) hx hb dM_fill_18 (by decide) ?_
    refine lv_icmp_ge (tgt := 49) hx hb dM_fill_19 rfl (fun h5 => absurd h5 (by decide)) (fun _ => ?_)
    refine lv_aload_n hx hb dM_fill_22 rfl (lv_at hl 0 rfl) ?_
    refine mget_0_0 hx hb hts inM hown hC hP (hts _ wM_f7) dM_fill_23 ?_
    refine lv_iload_n hx hb dM_fill_26 rfl (lv_at hl 1 rfl) ?_
    refine lv_iload hx hb dM_fill_27 (lv_at hl 3 rfl) ?_
    refine lv_iadd hx hb dM_fill_29 ?_
    refine lv_lload_n hx hb dM_fill_30 rfl (lv_at hl 2 rfl) ?_
    refine lv_bipush (v := 16) hx hb dM_fill_31 (by decide) ?_
    refine lv_iload hx hb dM_fill_33 (lv_at hl 3 rfl) ?_
    refine lv_imul hx hb dM_fill_35 ?_
    refine lv_lshr (v := (x2 >>> (((16 * 1) : Int32).toInt64 &&& 63))) hx hb dM_fill_36 rfl ?_
    refine lv_ldc2 (v := 65535) hx hb hown (hts _ wM_l33) dM_fill_37 ?_
    refine lv_land hx hb dM_fill_40 ?_
    refine lv_l2i (v := (((x2 >>> (((16 * 1) : Int32).toInt64 &&& 63)) &&& 65535) : Int64).toInt32) hx hb dM_fill_41 rfl ?_
    refine mast_1 hx hb hC hP hS (vin_add hle252_x1 (by decide)) dM_fill_42 (fun σ6 H locs e6 hP hS => ?_)
    have hE := hE.trans (bd_e e6)
    have hB : MB σ6 := by rw [e6]; exact hB
    refine lv_iinc (k := 3) (v := 2) (lv' := [(4, .int 2), (0, .ref (q 0)), (1, .int x1), (2, .long x2)]) hx hb dM_fill_43 hl rfl (by decide) (by decide) rfl (fun ls hl => ?_)
    refine lv_goto (tgt := 16) hx hb dM_fill_46 rfl ?_
    have hl := lv_sub hl [1, 2, 3, 0] rfl
    exact b16_2 _ _ _ _ x1 x2 hle252_x1 hE hl hP hB hS
  have b16_0 : ∀ (H : Heap) (locs : List Loc) (ls : Array Slot) (σ : St) (x1 : Int32) (x2 : Int64), bt0 x1 252 → m_fill σ0 a1 a2 = m_fill_16_0 σ x1 x2 → lv_has ls 5 [(0, .ref (q 0)), (1, .int x1), (2, .long x2), (4, .int 0)] → va_P D vwCl (wsM q cA σ) H → MB σ → va_S (MA q) s.heap H locs → W p l e (headSpec wsM_fill { frames := 0, cells := 0, slots := 0, locals := 0 }).room s m ([.ref (q 0), .int a1, .long a2] : List Value).toArray below meth c H locs 0 0 (MQ below (va_Qi (fun r u => (u, r) = m_fill σ0 a1 a2 ∧ zb r) (MPost D q cA) (MA q)) ([.ref (q 0), .int a1, .long a2] : List Value).toArray s 0 0 (MA q)) (F0 m 16 ls []) := by
    intro H locs ls σ x1 x2 hle252_x1 hE hl hP hB hS
    refine lv_iload hx hb dM_fill_16 (lv_at hl 3 rfl) ?_
    refine lv_iconst (v := 4) hx hb dM_fill_18 (by decide) ?_
    refine lv_icmp_ge (tgt := 49) hx hb dM_fill_19 rfl (fun h3 => absurd h3 (by decide)) (fun _ => ?_)
    refine lv_aload_n hx hb dM_fill_22 rfl (lv_at hl 0 rfl) ?_
    refine mget_0_0 hx hb hts inM hown hC hP (hts _ wM_f7) dM_fill_23 ?_
    refine lv_iload_n hx hb dM_fill_26 rfl (lv_at hl 1 rfl) ?_
    refine lv_iload hx hb dM_fill_27 (lv_at hl 3 rfl) ?_
    refine lv_iadd hx hb dM_fill_29 ?_
    refine lv_lload_n hx hb dM_fill_30 rfl (lv_at hl 2 rfl) ?_
    refine lv_bipush (v := 16) hx hb dM_fill_31 (by decide) ?_
    refine lv_iload hx hb dM_fill_33 (lv_at hl 3 rfl) ?_
    refine lv_imul hx hb dM_fill_35 ?_
    refine lv_lshr (v := (x2 >>> (((16 * 0) : Int32).toInt64 &&& 63))) hx hb dM_fill_36 rfl ?_
    refine lv_ldc2 (v := 65535) hx hb hown (hts _ wM_l33) dM_fill_37 ?_
    refine lv_land hx hb dM_fill_40 ?_
    refine lv_l2i (v := (((x2 >>> (((16 * 0) : Int32).toInt64 &&& 63)) &&& 65535) : Int64).toInt32) hx hb dM_fill_41 rfl ?_
    refine mast_1 hx hb hC hP hS (vin_add hle252_x1 (by decide)) dM_fill_42 (fun σ4 H locs e4 hP hS => ?_)
    have hE := hE.trans (bd_e e4)
    have hB : MB σ4 := by rw [e4]; exact hB
    refine lv_iinc (k := 3) (v := 1) (lv' := [(4, .int 1), (0, .ref (q 0)), (1, .int x1), (2, .long x2)]) hx hb dM_fill_43 hl rfl (by decide) (by decide) rfl (fun ls hl => ?_)
    refine lv_goto (tgt := 16) hx hb dM_fill_46 rfl ?_
    have hl := lv_sub hl [1, 2, 3, 0] rfl
    exact b16_1 _ _ _ _ x1 x2 hle252_x1 hE hl hP hB hS
  refine lv_iload_n hx hb dM_fill_0 rfl (lv_at hl 1 rfl) ?_
  refine lv_if_lt (tgt := 11) hx hb dM_fill_1 rfl (fun h1 => ?_) (fun h1 => ?_)
  · have hE := hE.trans (if_pos h1)
    have hl := lv_sub hl [] rfl
    exact b11 _ _ _ _ hE hl hP hB hS
  · have hE := hE.trans (if_neg h1)
    refine lv_iload_n hx hb dM_fill_4 rfl (lv_at hl 1 rfl) ?_
    refine lv_sipush (v := 252) hx hb dM_fill_5 (by decide) ?_
    refine lv_icmp_le (tgt := 13) hx hb dM_fill_8 rfl (fun h2 => ?_) (fun h2 => ?_)
    · have hE := hE.trans (if_pos h2)
      refine lv_iconst (v := 0) hx hb dM_fill_13 (by decide) ?_
      refine lv_istore (lv' := [(4, .int 0), (0, .ref (q 0)), (1, .int a1), (2, .long a2)]) hx hb dM_fill_14 hl (by decide) rfl (fun ls hl => ?_)
      have hl := lv_sub hl [1, 2, 3, 0] rfl
      exact b16_0 _ _ _ _ a1 a2 ⟨h1, h2⟩ hE hl hP hB hS
    · have hE := hE.trans (if_neg h2)
      have hl := lv_sub hl [] rfl
      exact b11 _ _ _ _ hE hl hP hB hS
set_option maxRecDepth 100000 in
set_option maxHeartbeats 4000000 in
theorem c_m_isAddress (l : Launch) (D : va_G) (q : Nat → Nat) (cA : ClassId) (σ0 : St) (a0 : Int32) : Met l yM_isAddress wsM_isAddress { frames := 0, cells := 0, slots := 0, locals := 0 } (va_Pc [.int a0] (MPre D q cA σ0)) (va_Qi (fun r u => (u, r) = m_isAddress σ0 a0 ∧ zb r) (MPost D q cA) (MA q)) 0 0 (MA q) := by
  refine Met.ofW (cc := cM_isAddress) (maxL := 1) (ret := (some .boolean)) (by decide) rfl ?_
  intro p e s m args below meth c s₁ B hml hv
  obtain ⟨rfl, hP, hB, hC⟩ := hv
  have hx := B.exec
  have hb := B.bytes
  have hr := B.returns
  have hts : ∀ w ∈ gw, w.before ([.int a0] : List Value).toArray s = true := fun w h => atoms_spec (ws := wsM_isAddress) B.pre w (List.mem_cons_of_mem _ h)
  have hown : s.vm.findClass RM = some m.cls := findClass_of_methodNamed B.named
  have hlocks := B.notSynchronized
  have hS : va_S (MA q) s.heap s.heap [] := va_S.rf
  have hl := lv_entry ([.int a0]) (n := 1) (Nat.le_of_ble_eq_true rfl)
  rw [lg_entry_eq]
  generalize (lg_sl ([.int a0]) ++ List.replicate (1 - (lg_sl ([.int a0])).length) Slot.unset).toArray = ls at hl ⊢
  have hl : lv_has ls 1 [(0, .int a0)] := hl
  have hE : m_isAddress σ0 a0 = m_isAddress σ0 a0 := rfl
  have b16 : ∀ (H : Heap) (locs : List Loc) (ls : Array Slot) (σ : St) (y0 : Int32), zb y0 → m_isAddress σ0 a0 = m_isAddress_16 σ y0 → lv_has ls 1 [] → va_P D vwCl (wsM q cA σ) H → MB σ → va_S (MA q) s.heap H locs → W p l e (headSpec wsM_isAddress { frames := 0, cells := 0, slots := 0, locals := 0 }).room s m ([.int a0] : List Value).toArray below meth c H locs 0 0 (MQ below (va_Qi (fun r u => (u, r) = m_isAddress σ0 a0 ∧ zb r) (MPost D q cA) (MA q)) ([.int a0] : List Value).toArray s 0 0 (MA q)) (F0 m 16 ls [.int y0]) := by
    intro H locs ls σ y0 hz_y0 hE hl hP hB hS
    exact W.zret (v := y0) hx hb hr (zb_n hz_y0).1 (fun t ht hW => ⟨⟨y0, σ, rfl, ⟨hE.symm, hz_y0⟩, ⟨by rw [ht]; exact hP, hB⟩⟩, hS.F ht⟩) hS.2.2 dM_isAddress_16
  have b15 : ∀ (H : Heap) (locs : List Loc) (ls : Array Slot) (σ : St), m_isAddress σ0 a0 = m_isAddress_15 σ → lv_has ls 1 [] → va_P D vwCl (wsM q cA σ) H → MB σ → va_S (MA q) s.heap H locs → W p l e (headSpec wsM_isAddress { frames := 0, cells := 0, slots := 0, locals := 0 }).room s m ([.int a0] : List Value).toArray below meth c H locs 0 0 (MQ below (va_Qi (fun r u => (u, r) = m_isAddress σ0 a0 ∧ zb r) (MPost D q cA) (MA q)) ([.int a0] : List Value).toArray s 0 0 (MA q)) (F0 m 15 ls []) := by
    intro H locs ls σ hE hl hP hB hS
    refine lv_iconst (v := 0) hx hb dM_isAddress_15 (by decide) ?_
    exact b16 _ _ _ _ 0 (by decide) hE hl hP hB hS
  refine lv_iload_n hx hb dM_isAddress_0 rfl (lv_at hl 0 rfl) ?_
  refine lv_if_lt (tgt := 15) hx hb dM_isAddress_1 rfl (fun h1 => ?_) (fun h1 => ?_)
  · have hE := hE.trans (if_pos h1)
    have hl := lv_sub hl [] rfl
    exact b15 _ _ _ _ hE hl hP hB hS
  · have hE := hE.trans (if_neg h1)
    refine lv_iload_n hx hb dM_isAddress_4 rfl (lv_at hl 0 rfl) ?_
    refine lv_sipush (v := 255) hx hb dM_isAddress_5 (by decide) ?_
    refine lv_icmp_gt (tgt := 15) hx hb dM_isAddress_8 rfl (fun h2 => ?_) (fun h2 => ?_)
    · have hE := hE.trans (if_pos h2)
      have hl := lv_sub hl [] rfl
      exact b15 _ _ _ _ hE hl hP hB hS
    · have hE := hE.trans (if_neg h2)
      refine lv_iconst (v := 1) hx hb dM_isAddress_11 (by decide) ?_
      refine lv_goto (tgt := 16) hx hb dM_isAddress_12 rfl ?_
      have hl := lv_sub hl [] rfl
      exact b16 _ _ _ _ 1 (by decide) hE hl hP hB hS
set_option maxRecDepth 100000 in
set_option maxHeartbeats 4000000 in
theorem c_m_region (l : Launch) (D : va_G) (q : Nat → Nat) (cA : ClassId) (σ0 : St) (a1 : Int32) (a2 : Int32) (a3 : Int32) (a4 : Int32) : Met l yM_region wsM_region { frames := 1, cells := 0, slots := 0, locals := 20 } (va_Pc [.ref (q 0), .int a1, .int a2, .int a3, .int a4] (MPre D q cA σ0)) (va_Qi (fun r u => (u, r) = m_region σ0 a1 a2 a3 a4 ∧ zb r) (MPost D q cA) (MA q)) 0 0 (MA q) := by
  refine Met.ofW (cc := cM_region) (maxL := 5) (ret := (some .boolean)) (by decide) rfl ?_
  intro p e s m args below meth c s₁ B hml hv
  obtain ⟨rfl, hP, hB, hC⟩ := hv
  have hx := B.exec
  have hb := B.bytes
  have hr := B.returns
  have hts : ∀ w ∈ gw, w.before ([.ref (q 0), .int a1, .int a2, .int a3, .int a4] : List Value).toArray s = true := fun w h => atoms_spec (ws := wsM_region) B.pre w (List.mem_cons_of_mem _ h)
  have hown : s.vm.findClass RM = some m.cls := findClass_of_methodNamed B.named
  have hlocks := B.notSynchronized
  have hS : va_S (MA q) s.heap s.heap [] := va_S.rf
  have hl := lv_entry ([.ref (q 0), .int a1, .int a2, .int a3, .int a4]) (n := 5) (Nat.le_of_ble_eq_true rfl)
  rw [lg_entry_eq]
  generalize (lg_sl ([.ref (q 0), .int a1, .int a2, .int a3, .int a4]) ++ List.replicate (5 - (lg_sl ([.ref (q 0), .int a1, .int a2, .int a3, .int a4])).length) Slot.unset).toArray = ls at hl ⊢
  have hl : lv_has ls 5 [(0, .ref (q 0)), (1, .int a1), (2, .int a2), (3, .int a3), (4, .int a4)] := hl
  have hE : m_region σ0 a1 a2 a3 a4 = m_region σ0 a1 a2 a3 a4 := rfl
  have b34 : ∀ (H : Heap) (locs : List Loc) (ls : Array Slot) (σ : St), m_region σ0 a1 a2 a3 a4 = m_region_34 σ → lv_has ls 5 [] → va_P D vwCl (wsM q cA σ) H → MB σ → va_S (MA q) s.heap H locs → W p l e (headSpec wsM_region { frames := 1, cells := 0, slots := 0, locals := 20 }).room s m ([.ref (q 0), .int a1, .int a2, .int a3, .int a4] : List Value).toArray below meth c H locs 0 0 (MQ below (va_Qi (fun r u => (u, r) = m_region σ0 a1 a2 a3 a4 ∧ zb r) (MPost D q cA) (MA q)) ([.ref (q 0), .int a1, .int a2, .int a3, .int a4] : List Value).toArray s 0 0 (MA q)) (F0 m 34 ls []) := by
    intro H locs ls σ hE hl hP hB hS
    refine lv_iconst (v := 0) hx hb dM_region_34 (by decide) ?_
    exact W.zret (v := 0) hx hb hr (zb_n (by decide)).1 (fun t ht hW => ⟨⟨0, σ, rfl, ⟨hE.symm, (by decide)⟩, ⟨by rw [ht]; exact hP, hB⟩⟩, hS.F ht⟩) hS.2.2 dM_region_35
  refine lv_iload_n hx hb dM_region_0 rfl (lv_at hl 1 rfl) ?_
  refine lv_if_lt (tgt := 34) hx hb dM_region_1 rfl (fun h1 => ?_) (fun h1 => ?_)
  · have hE := hE.trans (if_pos h1)
    have hl := lv_sub hl [] rfl
    exact b34 _ _ _ _ hE hl hP hB hS
  · have hE := hE.trans (if_neg h1)
    refine lv_iload_n hx hb dM_region_4 rfl (lv_at hl 1 rfl) ?_
    refine lv_iconst (v := 3) hx hb dM_region_5 (by decide) ?_
    refine lv_icmp_gt (tgt := 34) hx hb dM_region_6 rfl (fun h2 => ?_) (fun h2 => ?_)
    · have hE := hE.trans (if_pos h2)
      have hl := lv_sub hl [] rfl
      exact b34 _ _ _ _ hE hl hP hB hS
    · have hE := hE.trans (if_neg h2)
      refine lv_iload hx hb dM_region_9 (lv_at hl 4 rfl) ?_
      refine lv_if_lt (tgt := 34) hx hb dM_region_11 rfl (fun h3 => ?_) (fun h3 => ?_)
      · have hE := hE.trans (if_pos h3)
        have hl := lv_sub hl [] rfl
        exact b34 _ _ _ _ hE hl hP hB hS
      · have hE := hE.trans (if_neg h3)
        refine lv_iload hx hb dM_region_14 (lv_at hl 4 rfl) ?_
        refine lv_iconst (v := 2) hx hb dM_region_16 (by decide) ?_
        refine lv_icmp_gt (tgt := 34) hx hb dM_region_17 rfl (fun h4 => ?_) (fun h4 => ?_)
        · have hE := hE.trans (if_pos h4)
          have hl := lv_sub hl [] rfl
          exact b34 _ _ _ _ hE hl hP hB hS
        · have hE := hE.trans (if_neg h4)
          refine lv_iload_n hx hb dM_region_20 rfl (lv_at hl 2 rfl) ?_
          refine mscalli (rest := []) ⟨hx, hb, hml, hown, hts⟩ hC hP hB hS (c_m_isAddress l D q cA σ0 a2) (va_cwS 1 hts gM_35 rfl rfl rfl hdM_isAddress ⟨Nat.le_of_ble_eq_true rfl, Nat.le_of_ble_eq_true rfl⟩) rfl hl.1 rfl (Nat.le_of_ble_eq_true rfl) dM_region_21 (fun σ5 v6 H locs e5 hP hB hS => ?_)
          have z5 : zb v6 := e5.2
          have hE := hE.trans (bd2_e e5.1)
          refine lv_if_eq (tgt := 34) hx hb dM_region_24 rfl (fun h7 => ?_) (fun h7 => ?_)
          · have hE := hE.trans (if_pos h7)
            have hl := lv_sub hl [] rfl
            exact b34 _ _ _ _ hE hl hP hB hS
          · have hE := hE.trans (if_neg h7)
            refine lv_iload_n hx hb dM_region_27 rfl (lv_at hl 3 rfl) ?_
            refine mscalli (rest := []) ⟨hx, hb, hml, hown, hts⟩ hC hP hB hS (c_m_isAddress l D q cA σ5 a3) (va_cwS 1 hts gM_35 rfl rfl rfl hdM_isAddress ⟨Nat.le_of_ble_eq_true rfl, Nat.le_of_ble_eq_true rfl⟩) rfl hl.1 rfl (Nat.le_of_ble_eq_true rfl) dM_region_28 (fun σ8 v9 H locs e8 hP hB hS => ?_)
            have z8 : zb v9 := e8.2
            have hE := hE.trans (bd2_e e8.1)
            refine lv_if_ne (tgt := 36) hx hb dM_region_31 rfl (fun h10 => ?_) (fun h10 => ?_)
            · have hE := hE.trans (if_neg h10)
              refine lv_aload_n hx hb dM_region_36 rfl (lv_at hl 0 rfl) ?_
              refine mget_0_1 hx hb hts inM hown hC hP (hts _ wM_f13) dM_region_37 ?_
              refine lv_iload_n hx hb dM_region_40 rfl (lv_at hl 1 rfl) ?_
              refine lv_iload_n hx hb dM_region_41 rfl (lv_at hl 2 rfl) ?_
              refine mast_2 hx hb hC hP hS (vin_ngt h1 h2 (by decide)) dM_region_42 (fun σ11 H locs e11 hP hS => ?_)
              have hE := hE.trans (bd_e e11)
              have hB : MB σ11 := by rw [e11]; exact hB
              refine lv_aload_n hx hb dM_region_43 rfl (lv_at hl 0 rfl) ?_
              refine mget_0_2 hx hb hts inM hown hC hP (hts _ wM_f16) dM_region_44 ?_
              refine lv_iload_n hx hb dM_region_47 rfl (lv_at hl 1 rfl) ?_
              refine lv_iload_n hx hb dM_region_48 rfl (lv_at hl 3 rfl) ?_
              refine mast_3 hx hb hC hP hS (vin_ngt h1 h2 (by decide)) dM_region_49 (fun σ12 H locs e12 hP hS => ?_)
              have hE := hE.trans (bd_e e12)
              have hB : MB σ12 := by rw [e12]; exact hB
              refine lv_aload_n hx hb dM_region_50 rfl (lv_at hl 0 rfl) ?_
              refine mget_0_3 hx hb hts inM hown hC hP (hts _ wM_f19) dM_region_51 ?_
              refine lv_iload_n hx hb dM_region_54 rfl (lv_at hl 1 rfl) ?_
              refine lv_iload hx hb dM_region_55 (lv_at hl 4 rfl) ?_
              refine mast_4 hx hb hC hP hS (vin_ngt h1 h2 (by decide)) dM_region_57 (fun σ13 H locs e13 hP hS => ?_)
              have hE := hE.trans (bd_e e13)
              have hB : MB σ13 := by rw [e13]; exact hB
              refine lv_iconst (v := 1) hx hb dM_region_58 (by decide) ?_
              exact W.zret (v := 1) hx hb hr (zb_n (by decide)).1 (fun t ht hW => ⟨⟨1, σ13, rfl, ⟨hE.symm, (by decide)⟩, ⟨by rw [ht]; exact hP, hB⟩⟩, hS.F ht⟩) hS.2.2 dM_region_59
            · have hE := hE.trans (if_pos h10)
              have hl := lv_sub hl [] rfl
              exact b34 _ _ _ _ hE hl hP hB hS
set_option maxRecDepth 100000 in
set_option maxHeartbeats 4000000 in
theorem c_m_settings (l : Launch) (D : va_G) (q : Nat → Nat) (cA : ClassId) (σ0 : St) (a1 : Int32) (a2 : Int32) (a3 : Int32) (a4 : Int32) (hz_a1 : zb a1) : Met l yM_settings wsM_settings { frames := 0, cells := 0, slots := 0, locals := 0 } (va_Pc [.ref (q 0), .int a1, .int a2, .int a3, .int a4] (MPre D q cA σ0)) (va_Qi (fun r u => (u, r) = m_settings σ0 a1 a2 a3 a4 ∧ zb r) (MPost D q cA) (MA q)) 0 0 (MA q) := by
  refine Met.ofW (cc := cM_settings) (maxL := 5) (ret := (some .boolean)) (by decide) rfl ?_
  intro p e s m args below meth c s₁ B hml hv
  obtain ⟨rfl, hP, hB, hC⟩ := hv
  have hx := B.exec
  have hb := B.bytes
  have hr := B.returns
  have hts : ∀ w ∈ gw, w.before ([.ref (q 0), .int a1, .int a2, .int a3, .int a4] : List Value).toArray s = true := fun w h => atoms_spec (ws := wsM_settings) B.pre w (List.mem_cons_of_mem _ h)
  have hown : s.vm.findClass RM = some m.cls := findClass_of_methodNamed B.named
  have hlocks := B.notSynchronized
  have hS : va_S (MA q) s.heap s.heap [] := va_S.rf
  have hl := lv_entry ([.ref (q 0), .int a1, .int a2, .int a3, .int a4]) (n := 5) (Nat.le_of_ble_eq_true rfl)
  rw [lg_entry_eq]
  generalize (lg_sl ([.ref (q 0), .int a1, .int a2, .int a3, .int a4]) ++ List.replicate (5 - (lg_sl ([.ref (q 0), .int a1, .int a2, .int a3, .int a4])).length) Slot.unset).toArray = ls at hl ⊢
  have hl : lv_has ls 5 [(0, .ref (q 0)), (1, .int a1), (2, .int a2), (3, .int a3), (4, .int a4)] := hl
  have hE : m_settings σ0 a1 a2 a3 a4 = m_settings σ0 a1 a2 a3 a4 := rfl
  have b32 : ∀ (H : Heap) (locs : List Loc) (ls : Array Slot) (σ : St), m_settings σ0 a1 a2 a3 a4 = m_settings_32 σ → lv_has ls 5 [] → va_P D vwCl (wsM q cA σ) H → MB σ → va_S (MA q) s.heap H locs → W p l e (headSpec wsM_settings { frames := 0, cells := 0, slots := 0, locals := 0 }).room s m ([.ref (q 0), .int a1, .int a2, .int a3, .int a4] : List Value).toArray below meth c H locs 0 0 (MQ below (va_Qi (fun r u => (u, r) = m_settings σ0 a1 a2 a3 a4 ∧ zb r) (MPost D q cA) (MA q)) ([.ref (q 0), .int a1, .int a2, .int a3, .int a4] : List Value).toArray s 0 0 (MA q)) (F0 m 32 ls []) := by
    intro H locs ls σ hE hl hP hB hS
    refine lv_iconst (v := 0) hx hb dM_settings_32 (by decide) ?_
    exact W.zret (v := 0) hx hb hr (zb_n (by decide)).1 (fun t ht hW => ⟨⟨0, σ, rfl, ⟨hE.symm, (by decide)⟩, ⟨by rw [ht]; exact hP, hB⟩⟩, hS.F ht⟩) hS.2.2 dM_settings_33
  refine lv_iload_n hx hb dM_settings_0 rfl (lv_at hl 2 rfl) ?_
  refine lv_if_lt (tgt := 32) hx hb dM_settings_1 rfl (fun h1 => ?_) (fun h1 => ?_)
  · have hE := hE.trans (if_pos h1)
    have hl := lv_sub hl [] rfl
    exact b32 _ _ _ _ hE hl hP hB hS
  · have hE := hE.trans (if_neg h1)
    refine lv_iload_n hx hb dM_settings_4 rfl (lv_at hl 2 rfl) ?_
    refine lv_bipush (v := 15) hx hb dM_settings_5 (by decide) ?_
    refine lv_icmp_gt (tgt := 32) hx hb dM_settings_7 rfl (fun h2 => ?_) (fun h2 => ?_)
    · have hE := hE.trans (if_pos h2)
      have hl := lv_sub hl [] rfl
      exact b32 _ _ _ _ hE hl hP hB hS
    · have hE := hE.trans (if_neg h2)
      refine lv_iload_n hx hb dM_settings_10 rfl (lv_at hl 3 rfl) ?_
      refine lv_if_lt (tgt := 32) hx hb dM_settings_11 rfl (fun h3 => ?_) (fun h3 => ?_)
      · have hE := hE.trans (if_pos h3)
        have hl := lv_sub hl [] rfl
        exact b32 _ _ _ _ hE hl hP hB hS
      · have hE := hE.trans (if_neg h3)
        refine lv_iload_n hx hb dM_settings_14 rfl (lv_at hl 3 rfl) ?_
        refine lv_bipush (v := 31) hx hb dM_settings_15 (by decide) ?_
        refine lv_icmp_gt (tgt := 32) hx hb dM_settings_17 rfl (fun h4 => ?_) (fun h4 => ?_)
        · have hE := hE.trans (if_pos h4)
          have hl := lv_sub hl [] rfl
          exact b32 _ _ _ _ hE hl hP hB hS
        · have hE := hE.trans (if_neg h4)
          refine lv_iload hx hb dM_settings_20 (lv_at hl 4 rfl) ?_
          refine lv_if_lt (tgt := 32) hx hb dM_settings_22 rfl (fun h5 => ?_) (fun h5 => ?_)
          · have hE := hE.trans (if_pos h5)
            have hl := lv_sub hl [] rfl
            exact b32 _ _ _ _ hE hl hP hB hS
          · have hE := hE.trans (if_neg h5)
            refine lv_iload hx hb dM_settings_25 (lv_at hl 4 rfl) ?_
            refine lv_bipush (v := 31) hx hb dM_settings_27 (by decide) ?_
            refine lv_icmp_le (tgt := 34) hx hb dM_settings_29 rfl (fun h6 => ?_) (fun h6 => ?_)
            · have hE := hE.trans (if_pos h6)
              refine lv_aload_n hx hb dM_settings_34 rfl (lv_at hl 0 rfl) ?_
              refine lv_iload_n hx hb dM_settings_35 rfl (lv_at hl 1 rfl) ?_
              refine mput_0_4 hx hb hts inM hown hC hP (hts _ wM_f22) hS hz_a1 dM_settings_36 (fun σ7 H locs e7 hP hS => ?_)
              have hE := hE.trans (bd_e e7)
              have hB : MB σ7 := by rw [e7]; exact MB_0_4s hB hz_a1
              refine lv_aload_n hx hb dM_settings_39 rfl (lv_at hl 0 rfl) ?_
              refine lv_iload_n hx hb dM_settings_40 rfl (lv_at hl 2 rfl) ?_
              refine mput_0_5 hx hb hts inM hown hC hP (hts _ wM_f39) hS dM_settings_41 (fun σ8 H locs e8 hP hS => ?_)
              have hE := hE.trans (bd_e e8)
              have hB : MB σ8 := by rw [e8]; exact hB
              refine lv_aload_n hx hb dM_settings_44 rfl (lv_at hl 0 rfl) ?_
              refine lv_iload_n hx hb dM_settings_45 rfl (lv_at hl 3 rfl) ?_
              refine mput_0_6 hx hb hts inM hown hC hP (hts _ wM_f43) hS dM_settings_46 (fun σ9 H locs e9 hP hS => ?_)
              have hE := hE.trans (bd_e e9)
              have hB : MB σ9 := by rw [e9]; exact hB
              refine lv_aload_n hx hb dM_settings_49 rfl (lv_at hl 0 rfl) ?_
              refine lv_iload hx hb dM_settings_50 (lv_at hl 4 rfl) ?_
              refine mput_0_7 hx hb hts inM hown hC hP (hts _ wM_f46) hS dM_settings_52 (fun σ10 H locs e10 hP hS => ?_)
              have hE := hE.trans (bd_e e10)
              have hB : MB σ10 := by rw [e10]; exact hB
              refine lv_iconst (v := 1) hx hb dM_settings_55 (by decide) ?_
              exact W.zret (v := 1) hx hb hr (zb_n (by decide)).1 (fun t ht hW => ⟨⟨1, σ10, rfl, ⟨hE.symm, (by decide)⟩, ⟨by rw [ht]; exact hP, hB⟩⟩, hS.F ht⟩) hS.2.2 dM_settings_56
            · have hE := hE.trans (if_neg h6)
              have hl := lv_sub hl [] rfl
              exact b32 _ _ _ _ hE hl hP hB hS
set_option maxRecDepth 100000 in
set_option maxHeartbeats 4000000 in
theorem c_m_begin (l : Launch) (D : va_G) (q : Nat → Nat) (cA : ClassId) (σ0 : St) (a1 : Int32) (a2 : Int32) (a3 : Int32) (a4 : Int32) (hz_a2 : zb a2) : Met l yM_begin wsM_begin { frames := 1, cells := 0, slots := 0, locals := 20 } (va_Pc [.ref (q 0), .int a1, .int a2, .int a3, .int a4] (MPre D q cA σ0)) (va_Qi (fun r u => (u, r) = m_begin σ0 a1 a2 a3 a4 ∧ zb r) (MPost D q cA) (MA q)) 0 0 (MA q) := by
  refine Met.ofW (cc := cM_begin) (maxL := 5) (ret := (some .boolean)) (by decide) rfl ?_
  intro p e s m args below meth c s₁ B hml hv
  obtain ⟨rfl, hP, hB, hC⟩ := hv
  have hx := B.exec
  have hb := B.bytes
  have hr := B.returns
  have hts : ∀ w ∈ gw, w.before ([.ref (q 0), .int a1, .int a2, .int a3, .int a4] : List Value).toArray s = true := fun w h => atoms_spec (ws := wsM_begin) B.pre w (List.mem_cons_of_mem _ h)
  have hown : s.vm.findClass RM = some m.cls := findClass_of_methodNamed B.named
  have hlocks := B.notSynchronized
  have hS : va_S (MA q) s.heap s.heap [] := va_S.rf
  have hl := lv_entry ([.ref (q 0), .int a1, .int a2, .int a3, .int a4]) (n := 5) (Nat.le_of_ble_eq_true rfl)
  rw [lg_entry_eq]
  generalize (lg_sl ([.ref (q 0), .int a1, .int a2, .int a3, .int a4]) ++ List.replicate (5 - (lg_sl ([.ref (q 0), .int a1, .int a2, .int a3, .int a4])).length) Slot.unset).toArray = ls at hl ⊢
  have hl : lv_has ls 5 [(0, .ref (q 0)), (1, .int a1), (2, .int a2), (3, .int a3), (4, .int a4)] := hl
  have hE : m_begin σ0 a1 a2 a3 a4 = m_begin σ0 a1 a2 a3 a4 := rfl
  have b32_11 : ∀ (H : Heap) (locs : List Loc) (ls : Array Slot) (σ : St) (x3 : Int32) (x4 : Int32) (y0 : Int32), m_begin σ0 a1 a2 a3 a4 = m_begin_32_11 σ x3 x4 y0 → lv_has ls 5 [(0, .ref (q 0)), (3, .int x3), (4, .int x4)] → va_P D vwCl (wsM q cA σ) H → MB σ → va_S (MA q) s.heap H locs → W p l e (headSpec wsM_begin { frames := 1, cells := 0, slots := 0, locals := 20 }).room s m ([.ref (q 0), .int a1, .int a2, .int a3, .int a4] : List Value).toArray below meth c H locs 0 0 (MQ below (va_Qi (fun r u => (u, r) = m_begin σ0 a1 a2 a3 a4 ∧ zb r) (MPost D q cA) (MA q)) ([.ref (q 0), .int a1, .int a2, .int a3, .int a4] : List Value).toArray s 0 0 (MA q)) (F0 m 32 ls [.int y0, .int 11, .ref (q 5)]) := by
    intro H locs ls σ x3 x4 y0 hE hl hP hB hS
    refine mast_5 hx hb hC hP hS (vin_c (by decide)) dM_begin_32 (fun σ6 H locs e6 hP hS => ?_)
    have hE := hE.trans (bd_e e6)
    have hB : MB σ6 := by rw [e6]; exact hB
    refine lv_aload_n hx hb dM_begin_33 rfl (lv_at hl 0 rfl) ?_
    refine mget_0_8 hx hb hts inM hown hC hP (hts _ wM_f26) dM_begin_34 ?_
    refine lv_bipush (v := 8) hx hb dM_begin_37 (by decide) ?_
    refine lv_iload_n hx hb dM_begin_39 rfl (lv_at hl 1 rfl) ?_
    refine lv_ldc (v := 65535) hx hb hown (hts _ wM_c32) dM_begin_40 ?_
    refine lv_iand hx hb dM_begin_42 ?_
    refine mast_5 hx hb hC hP hS (vin_c (by decide)) dM_begin_43 (fun σ7 H locs e7 hP hS => ?_)
    have hE := hE.trans (bd_e e7)
    have hB : MB σ7 := by rw [e7]; exact hB
    refine lv_aload_n hx hb dM_begin_44 rfl (lv_at hl 0 rfl) ?_
    refine mget_0_8 hx hb hts inM hown hC hP (hts _ wM_f26) dM_begin_45 ?_
    refine lv_bipush (v := 9) hx hb dM_begin_48 (by decide) ?_
    refine lv_iload hx hb dM_begin_50 (lv_at hl 2 rfl) ?_
    refine lv_ldc (v := 65535) hx hb hown (hts _ wM_c32) dM_begin_52 ?_
    refine lv_iand hx hb dM_begin_54 ?_
    refine mast_5 hx hb hC hP hS (vin_c (by decide)) dM_begin_55 (fun σ8 H locs e8 hP hS => ?_)
    have hE := hE.trans (bd_e e8)
    have hB : MB σ8 := by rw [e8]; exact hB
    refine lv_aload_n hx hb dM_begin_56 rfl (lv_at hl 0 rfl) ?_
    refine lv_iconst (v := 0) hx hb dM_begin_57 (by decide) ?_
    refine mput_0_11 hx hb hts inM hown hC hP (hts _ wM_f49) hS dM_begin_58 (fun σ9 H locs e9 hP hS => ?_)
    have hE := hE.trans (bd_e e9)
    have hB : MB σ9 := by rw [e9]; exact hB
    refine lv_aload_n hx hb dM_begin_61 rfl (lv_at hl 0 rfl) ?_
    refine lv_iconst (v := 0) hx hb dM_begin_62 (by decide) ?_
    refine mput_0_10 hx hb hts inM hown hC hP (hts _ wM_f52) hS dM_begin_63 (fun σ10 H locs e10 hP hS => ?_)
    have hE := hE.trans (bd_e e10)
    have hB : MB σ10 := by rw [e10]; exact hB
    refine lv_aload_n hx hb dM_begin_66 rfl (lv_at hl 0 rfl) ?_
    refine lv_iconst (v := 0) hx hb dM_begin_67 (by decide) ?_
    refine mput_0_12 hx hb hts inM hown hC hP (hts _ wM_f55) hS dM_begin_68 (fun σ11 H locs e11 hP hS => ?_)
    have hE := hE.trans (bd_e e11)
    have hB : MB σ11 := by rw [e11]; exact hB
    refine lv_iconst (v := 1) hx hb dM_begin_71 (by decide) ?_
    exact W.zret (v := 1) hx hb hr (zb_n (by decide)).1 (fun t ht hW => ⟨⟨1, σ11, rfl, ⟨hE.symm, (by decide)⟩, ⟨by rw [ht]; exact hP, hB⟩⟩, hS.F ht⟩) hS.2.2 dM_begin_72
  refine lv_iload_n hx hb dM_begin_0 rfl (lv_at hl 1 rfl) ?_
  refine mscalli (rest := []) ⟨hx, hb, hml, hown, hts⟩ hC hP hB hS (c_m_isAddress l D q cA σ0 a1) (va_cwS 1 hts gM_35 rfl rfl rfl hdM_isAddress ⟨Nat.le_of_ble_eq_true rfl, Nat.le_of_ble_eq_true rfl⟩) rfl hl.1 rfl (Nat.le_of_ble_eq_true rfl) dM_begin_1 (fun σ1 v2 H locs e1 hP hB hS => ?_)
  have z1 : zb v2 := e1.2
  have hE := hE.trans (bd2_e e1.1)
  refine lv_if_ne (tgt := 9) hx hb dM_begin_4 rfl (fun h3 => ?_) (fun h3 => ?_)
  · have hE := hE.trans (if_neg h3)
    refine lv_aload_n hx hb dM_begin_9 rfl (lv_at hl 0 rfl) ?_
    refine mget_0_8 hx hb hts inM hown hC hP (hts _ wM_f26) dM_begin_10 ?_
    refine lv_bipush (v := 7) hx hb dM_begin_13 (by decide) ?_
    refine lv_iload_n hx hb dM_begin_15 rfl (lv_at hl 1 rfl) ?_
    refine mast_5 hx hb hC hP hS (vin_c (by decide)) dM_begin_16 (fun σ4 H locs e4 hP hS => ?_)
    have hE := hE.trans (bd_e e4)
    have hB : MB σ4 := by rw [e4]; exact hB
    refine lv_aload_n hx hb dM_begin_17 rfl (lv_at hl 0 rfl) ?_
    refine mget_0_8 hx hb hts inM hown hC hP (hts _ wM_f26) dM_begin_18 ?_
    refine lv_bipush (v := 11) hx hb dM_begin_21 (by decide) ?_
    refine lv_iload_n hx hb dM_begin_23 rfl (lv_at hl 2 rfl) ?_
    refine lv_if_eq (tgt := 31) hx hb dM_begin_24 rfl (fun h5 => ?_) (fun h5 => ?_)
    · have hE := hE.trans (if_pos h5)
      refine lv_iconst (v := 0) hx hb dM_begin_31 (by decide) ?_
      have hl := lv_sub hl [0, 3, 4] rfl
      exact b32_11 _ _ _ _ a3 a4 0 hE hl hP hB hS
    · have hE := hE.trans (if_neg h5)
      refine lv_iconst (v := 1) hx hb dM_begin_27 (by decide) ?_
      refine lv_goto (tgt := 32) hx hb dM_begin_28 rfl ?_
      have hl := lv_sub hl [0, 3, 4] rfl
      exact b32_11 _ _ _ _ a3 a4 1 hE hl hP hB hS
  · have hE := hE.trans (if_pos h3)
    refine lv_iconst (v := 0) hx hb dM_begin_7 (by decide) ?_
    exact W.zret (v := 0) hx hb hr (zb_n (by decide)).1 (fun t ht hW => ⟨⟨0, σ1, rfl, ⟨hE.symm, (by decide)⟩, ⟨by rw [ht]; exact hP, hB⟩⟩, hS.F ht⟩) hS.2.2 dM_begin_8
set_option maxRecDepth 100000 in
set_option maxHeartbeats 4000000 in
theorem c_m_set (l : Launch) (D : va_G) (q : Nat → Nat) (cA : ClassId) (σ0 : St) (a1 : Int32) (a2 : Int32) : Met l yM_set wsM_set { frames := 0, cells := 0, slots := 0, locals := 0 } (va_Pc [.ref (q 0), .int a1, .int a2] (MPre D q cA σ0)) (va_Qi (fun r u => (u, r) = m_set σ0 a1 a2 ∧ zb r) (MPost D q cA) (MA q)) 0 0 (MA q) := by
  refine Met.ofW (cc := cM_set) (maxL := 3) (ret := (some .boolean)) (by decide) rfl ?_
  intro p e s m args below meth c s₁ B hml hv
  obtain ⟨rfl, hP, hB, hC⟩ := hv
  have hx := B.exec
  have hb := B.bytes
  have hr := B.returns
  have hts : ∀ w ∈ gw, w.before ([.ref (q 0), .int a1, .int a2] : List Value).toArray s = true := fun w h => atoms_spec (ws := wsM_set) B.pre w (List.mem_cons_of_mem _ h)
  have hown : s.vm.findClass RM = some m.cls := findClass_of_methodNamed B.named
  have hlocks := B.notSynchronized
  have hS : va_S (MA q) s.heap s.heap [] := va_S.rf
  have hl := lv_entry ([.ref (q 0), .int a1, .int a2]) (n := 3) (Nat.le_of_ble_eq_true rfl)
  rw [lg_entry_eq]
  generalize (lg_sl ([.ref (q 0), .int a1, .int a2]) ++ List.replicate (3 - (lg_sl ([.ref (q 0), .int a1, .int a2])).length) Slot.unset).toArray = ls at hl ⊢
  have hl : lv_has ls 3 [(0, .ref (q 0)), (1, .int a1), (2, .int a2)] := hl
  have hE : m_set σ0 a1 a2 = m_set σ0 a1 a2 := rfl
  have b10 : ∀ (H : Heap) (locs : List Loc) (ls : Array Slot) (σ : St), m_set σ0 a1 a2 = m_set_10 σ → lv_has ls 3 [] → va_P D vwCl (wsM q cA σ) H → MB σ → va_S (MA q) s.heap H locs → W p l e (headSpec wsM_set { frames := 0, cells := 0, slots := 0, locals := 0 }).room s m ([.ref (q 0), .int a1, .int a2] : List Value).toArray below meth c H locs 0 0 (MQ below (va_Qi (fun r u => (u, r) = m_set σ0 a1 a2 ∧ zb r) (MPost D q cA) (MA q)) ([.ref (q 0), .int a1, .int a2] : List Value).toArray s 0 0 (MA q)) (F0 m 10 ls []) := by
    intro H locs ls σ hE hl hP hB hS
    refine lv_iconst (v := 0) hx hb dM_set_10 (by decide) ?_
    exact W.zret (v := 0) hx hb hr (zb_n (by decide)).1 (fun t ht hW => ⟨⟨0, σ, rfl, ⟨hE.symm, (by decide)⟩, ⟨by rw [ht]; exact hP, hB⟩⟩, hS.F ht⟩) hS.2.2 dM_set_11
  refine lv_iload_n hx hb dM_set_0 rfl (lv_at hl 1 rfl) ?_
  refine lv_if_lt (tgt := 10) hx hb dM_set_1 rfl (fun h1 => ?_) (fun h1 => ?_)
  · have hE := hE.trans (if_pos h1)
    have hl := lv_sub hl [] rfl
    exact b10 _ _ _ _ hE hl hP hB hS
  · have hE := hE.trans (if_neg h1)
    refine lv_iload_n hx hb dM_set_4 rfl (lv_at hl 1 rfl) ?_
    refine lv_bipush (v := 6) hx hb dM_set_5 (by decide) ?_
    refine lv_icmp_le (tgt := 12) hx hb dM_set_7 rfl (fun h2 => ?_) (fun h2 => ?_)
    · have hE := hE.trans (if_pos h2)
      refine lv_aload_n hx hb dM_set_12 rfl (lv_at hl 0 rfl) ?_
      refine mget_0_8 hx hb hts inM hown hC hP (hts _ wM_f26) dM_set_13 ?_
      refine lv_iload_n hx hb dM_set_16 rfl (lv_at hl 1 rfl) ?_
      refine lv_iload_n hx hb dM_set_17 rfl (lv_at hl 2 rfl) ?_
      refine lv_ldc (v := 65535) hx hb hown (hts _ wM_c32) dM_set_18 ?_
      refine lv_iand hx hb dM_set_20 ?_
      refine mast_5 hx hb hC hP hS (vin_le h1 h2 (by decide)) dM_set_21 (fun σ3 H locs e3 hP hS => ?_)
      have hE := hE.trans (bd_e e3)
      have hB : MB σ3 := by rw [e3]; exact hB
      refine lv_iconst (v := 1) hx hb dM_set_22 (by decide) ?_
      exact W.zret (v := 1) hx hb hr (zb_n (by decide)).1 (fun t ht hW => ⟨⟨1, σ3, rfl, ⟨hE.symm, (by decide)⟩, ⟨by rw [ht]; exact hP, hB⟩⟩, hS.F ht⟩) hS.2.2 dM_set_23
    · have hE := hE.trans (if_neg h2)
      have hl := lv_sub hl [] rfl
      exact b10 _ _ _ _ hE hl hP hB hS
set_option maxRecDepth 100000 in
set_option maxHeartbeats 4000000 in
theorem c_m_interrupt (l : Launch) (D : va_G) (q : Nat → Nat) (cA : ClassId) (σ0 : St) (a1 : Int32) : Met l yM_interrupt wsM_interrupt { frames := 0, cells := 0, slots := 0, locals := 0 } (va_Pc [.ref (q 0), .int a1] (MPre D q cA σ0)) (va_Qi (fun r u => (u, r) = m_interrupt σ0 a1 ∧ zb r) (MPost D q cA) (MA q)) 0 0 (MA q) := by
  refine Met.ofW (cc := cM_interrupt) (maxL := 2) (ret := (some .boolean)) (by decide) rfl ?_
  intro p e s m args below meth c s₁ B hml hv
  obtain ⟨rfl, hP, hB, hC⟩ := hv
  have hx := B.exec
  have hb := B.bytes
  have hr := B.returns
  have hts : ∀ w ∈ gw, w.before ([.ref (q 0), .int a1] : List Value).toArray s = true := fun w h => atoms_spec (ws := wsM_interrupt) B.pre w (List.mem_cons_of_mem _ h)
  have hown : s.vm.findClass RM = some m.cls := findClass_of_methodNamed B.named
  have hlocks := B.notSynchronized
  have hS : va_S (MA q) s.heap s.heap [] := va_S.rf
  have hl := lv_entry ([.ref (q 0), .int a1]) (n := 2) (Nat.le_of_ble_eq_true rfl)
  rw [lg_entry_eq]
  generalize (lg_sl ([.ref (q 0), .int a1]) ++ List.replicate (2 - (lg_sl ([.ref (q 0), .int a1])).length) Slot.unset).toArray = ls at hl ⊢
  have hl : lv_has ls 2 [(0, .ref (q 0)), (1, .int a1)] := hl
  have hE : m_interrupt σ0 a1 = m_interrupt σ0 a1 := rfl
  have b11 : ∀ (H : Heap) (locs : List Loc) (ls : Array Slot) (σ : St), m_interrupt σ0 a1 = m_interrupt_11 σ → lv_has ls 2 [] → va_P D vwCl (wsM q cA σ) H → MB σ → va_S (MA q) s.heap H locs → W p l e (headSpec wsM_interrupt { frames := 0, cells := 0, slots := 0, locals := 0 }).room s m ([.ref (q 0), .int a1] : List Value).toArray below meth c H locs 0 0 (MQ below (va_Qi (fun r u => (u, r) = m_interrupt σ0 a1 ∧ zb r) (MPost D q cA) (MA q)) ([.ref (q 0), .int a1] : List Value).toArray s 0 0 (MA q)) (F0 m 11 ls []) := by
    intro H locs ls σ hE hl hP hB hS
    refine lv_iconst (v := 0) hx hb dM_interrupt_11 (by decide) ?_
    exact W.zret (v := 0) hx hb hr (zb_n (by decide)).1 (fun t ht hW => ⟨⟨0, σ, rfl, ⟨hE.symm, (by decide)⟩, ⟨by rw [ht]; exact hP, hB⟩⟩, hS.F ht⟩) hS.2.2 dM_interrupt_12
  refine lv_iload_n hx hb dM_interrupt_0 rfl (lv_at hl 1 rfl) ?_
  refine lv_iconst (v := 3) hx hb dM_interrupt_1 (by decide) ?_
  refine lv_icmp_lt (tgt := 11) hx hb dM_interrupt_2 rfl (fun h1 => ?_) (fun h1 => ?_)
  · have hE := hE.trans (if_pos h1)
    have hl := lv_sub hl [] rfl
    exact b11 _ _ _ _ hE hl hP hB hS
  · have hE := hE.trans (if_neg h1)
    refine lv_iload_n hx hb dM_interrupt_5 rfl (lv_at hl 1 rfl) ?_
    refine lv_bipush (v := 6) hx hb dM_interrupt_6 (by decide) ?_
    refine lv_icmp_le (tgt := 13) hx hb dM_interrupt_8 rfl (fun h2 => ?_) (fun h2 => ?_)
    · have hE := hE.trans (if_pos h2)
      refine lv_aload_n hx hb dM_interrupt_13 rfl (lv_at hl 0 rfl) ?_
      refine lv_dup hx hb dM_interrupt_14 rfl ?_
      refine mget_0_12 hx hb hts inM hown hC hP (hts _ wM_f55) dM_interrupt_15 ?_
      refine lv_iconst (v := 1) hx hb dM_interrupt_18 (by decide) ?_
      refine lv_iload_n hx hb dM_interrupt_19 rfl (lv_at hl 1 rfl) ?_
      refine lv_ishl hx hb dM_interrupt_20 ?_
      refine lv_ior hx hb dM_interrupt_21 ?_
      refine mput_0_12 hx hb hts inM hown hC hP (hts _ wM_f55) hS dM_interrupt_22 (fun σ3 H locs e3 hP hS => ?_)
      have hE := hE.trans (bd_e e3)
      have hB : MB σ3 := by rw [e3]; exact hB
      refine lv_iconst (v := 1) hx hb dM_interrupt_25 (by decide) ?_
      exact W.zret (v := 1) hx hb hr (zb_n (by decide)).1 (fun t ht hW => ⟨⟨1, σ3, rfl, ⟨hE.symm, (by decide)⟩, ⟨by rw [ht]; exact hP, hB⟩⟩, hS.F ht⟩) hS.2.2 dM_interrupt_26
    · have hE := hE.trans (if_neg h2)
      have hl := lv_sub hl [] rfl
      exact b11 _ _ _ _ hE hl hP hB hS
set_option maxRecDepth 100000 in
set_option maxHeartbeats 4000000 in
theorem c_m_kindAt (l : Launch) (D : va_G) (q : Nat → Nat) (cA : ClassId) (σ0 : St) (a1 : Int32) : Met l yM_kindAt wsM_kindAt { frames := 0, cells := 0, slots := 0, locals := 0 } (va_Pc [.ref (q 0), .int a1] (MPre D q cA σ0)) (va_Qi (fun r u => (u, r) = m_kindAt σ0 a1) (MPost D q cA) (MA q)) 0 0 (MA q) := by
  refine Met.ofW (cc := cM_kindAt) (maxL := 6) (ret := (some .int)) (by decide) rfl ?_
  intro p e s m args below meth c s₁ B hml hv
  obtain ⟨rfl, hP, hB, hC⟩ := hv
  have hx := B.exec
  have hb := B.bytes
  have hr := B.returns
  have hts : ∀ w ∈ gw, w.before ([.ref (q 0), .int a1] : List Value).toArray s = true := fun w h => atoms_spec (ws := wsM_kindAt) B.pre w (List.mem_cons_of_mem _ h)
  have hown : s.vm.findClass RM = some m.cls := findClass_of_methodNamed B.named
  have hlocks := B.notSynchronized
  have hS : va_S (MA q) s.heap s.heap [] := va_S.rf
  have hl := lv_entry ([.ref (q 0), .int a1]) (n := 6) (Nat.le_of_ble_eq_true rfl)
  rw [lg_entry_eq]
  generalize (lg_sl ([.ref (q 0), .int a1]) ++ List.replicate (6 - (lg_sl ([.ref (q 0), .int a1])).length) Slot.unset).toArray = ls at hl ⊢
  have hl : lv_has ls 6 [(0, .ref (q 0)), (1, .int a1)] := hl
  have hE : m_kindAt σ0 a1 = m_kindAt σ0 a1 := rfl
  have b81 : ∀ (H : Heap) (locs : List Loc) (ls : Array Slot) (σ : St) (y0 : Int32), m_kindAt σ0 a1 = m_kindAt_81 σ y0 → lv_has ls 6 [] → va_P D vwCl (wsM q cA σ) H → MB σ → va_S (MA q) s.heap H locs → W p l e (headSpec wsM_kindAt { frames := 0, cells := 0, slots := 0, locals := 0 }).room s m ([.ref (q 0), .int a1] : List Value).toArray below meth c H locs 0 0 (MQ below (va_Qi (fun r u => (u, r) = m_kindAt σ0 a1) (MPost D q cA) (MA q)) ([.ref (q 0), .int a1] : List Value).toArray s 0 0 (MA q)) (F0 m 81 ls [.int y0]) := by
    intro H locs ls σ y0 hE hl hP hB hS
    exact W.iret (v := y0) hx hb hr (fun t ht hW => ⟨⟨y0, σ, rfl, hE.symm, ⟨by rw [ht]; exact hP, hB⟩⟩, hS.F ht⟩) hS.2.2 dM_kindAt_81
  have b14_4 : ∀ (H : Heap) (locs : List Loc) (ls : Array Slot) (σ : St) (x2 : Int32) (x3 : Int32) (x4 : Int32), m_kindAt σ0 a1 = m_kindAt_14_4 σ x2 x3 x4 → lv_has ls 6 [(0, .ref (q 0)), (2, .int x2), (3, .int x3), (4, .int x4), (5, .int 4)] → va_P D vwCl (wsM q cA σ) H → MB σ → va_S (MA q) s.heap H locs → W p l e (headSpec wsM_kindAt { frames := 0, cells := 0, slots := 0, locals := 0 }).room s m ([.ref (q 0), .int a1] : List Value).toArray below meth c H locs 0 0 (MQ below (va_Qi (fun r u => (u, r) = m_kindAt σ0 a1) (MPost D q cA) (MA q)) ([.ref (q 0), .int a1] : List Value).toArray s 0 0 (MA q)) (F0 m 14 ls []) := by
    intro H locs ls σ x2 x3 x4 hE hl hP hB hS
    refine lv_iload hx hb dM_kindAt_14 (lv_at hl 4 rfl) ?_
    refine lv_iconst (v := 4) hx hb dM_kindAt_16 (by decide) ?_
    refine lv_icmp_ge (tgt := 70) hx hb dM_kindAt_17 rfl (fun _ => ?_) (fun h9 => absurd (by decide) h9)
    refine lv_iload_n hx hb dM_kindAt_70 rfl (lv_at hl 2 rfl) ?_
    refine lv_iconst (v := 1) hx hb dM_kindAt_71 (by decide) ?_
    refine lv_icmp_ne (tgt := 80) hx hb dM_kindAt_72 rfl (fun h10 => ?_) (fun h10 => ?_)
    · have hE := hE.trans (if_neg h10)
      refine lv_iconst (v := 0) hx hb dM_kindAt_80 (by decide) ?_
      have hl := lv_sub hl [] rfl
      exact b81 _ _ _ _ 0 hE hl hP hB hS
    · have hE := hE.trans (if_pos h10)
      refine lv_iload hx hb dM_kindAt_75 (lv_at hl 3 rfl) ?_
      refine lv_goto (tgt := 81) hx hb dM_kindAt_77 rfl ?_
      have hl := lv_sub hl [] rfl
      exact b81 _ _ _ _ x4 hE hl hP hB hS
  have b64_3 : ∀ (H : Heap) (locs : List Loc) (ls : Array Slot) (σ : St) (x2 : Int32) (x3 : Int32) (x4 : Int32), m_kindAt σ0 a1 = m_kindAt_64_3 σ x2 x3 x4 → lv_has ls 6 [(0, .ref (q 0)), (2, .int x2), (3, .int x3), (4, .int x4), (5, .int 3)] → va_P D vwCl (wsM q cA σ) H → MB σ → va_S (MA q) s.heap H locs → W p l e (headSpec wsM_kindAt { frames := 0, cells := 0, slots := 0, locals := 0 }).room s m ([.ref (q 0), .int a1] : List Value).toArray below meth c H locs 0 0 (MQ below (va_Qi (fun r u => (u, r) = m_kindAt σ0 a1) (MPost D q cA) (MA q)) ([.ref (q 0), .int a1] : List Value).toArray s 0 0 (MA q)) (F0 m 64 ls []) := by
    intro H locs ls σ x2 x3 x4 hE hl hP hB hS
    refine lv_iinc (k := 4) (v := 4) (lv' := [(5, .int 4), (0, .ref (q 0)), (2, .int x2), (3, .int x3), (4, .int x4)]) hx hb dM_kindAt_64 hl rfl (by decide) (by decide) rfl (fun ls hl => ?_)
    refine lv_goto (tgt := 14) hx hb dM_kindAt_67 rfl ?_
    have hl := lv_sub hl [1, 2, 3, 4, 0] rfl
    exact b14_4 _ _ _ _ x2 x3 x4 hE hl hP hB hS
  have b14_3 : ∀ (H : Heap) (locs : List Loc) (ls : Array Slot) (σ : St) (x2 : Int32) (x3 : Int32) (x4 : Int32), m_kindAt σ0 a1 = m_kindAt_14_3 σ x2 x3 x4 → lv_has ls 6 [(0, .ref (q 0)), (2, .int x2), (3, .int x3), (4, .int x4), (5, .int 3)] → va_P D vwCl (wsM q cA σ) H → MB σ → va_S (MA q) s.heap H locs → W p l e (headSpec wsM_kindAt { frames := 0, cells := 0, slots := 0, locals := 0 }).room s m ([.ref (q 0), .int a1] : List Value).toArray below meth c H locs 0 0 (MQ below (va_Qi (fun r u => (u, r) = m_kindAt σ0 a1) (MPost D q cA) (MA q)) ([.ref (q 0), .int a1] : List Value).toArray s 0 0 (MA q)) (F0 m 14 ls []) := by
    intro H locs ls σ x2 x3 x4 hE hl hP hB hS
    refine lv_iload hx hb dM_kindAt_14 (lv_at hl 4 rfl) ?_
    refine lv_iconst (v := 4) hx hb dM_kindAt_16 (by decide) ?_
    refine lv_icmp_ge (tgt := 70) hx hb dM_kindAt_17 rfl (fun h7 => absurd h7 (by decide)) (fun _ => ?_)
    refine lv_aload_n hx hb dM_kindAt_20 rfl (lv_at hl 0 rfl) ?_
    refine mget_0_3 hx hb hts inM hown hC hP (hts _ wM_f19) dM_kindAt_21 ?_
    refine lv_iload hx hb dM_kindAt_24 (lv_at hl 4 rfl) ?_
    refine mald_4 hx hb hC hP (vin_c (by decide)) dM_kindAt_26 ?_
    refine lv_if_eq (tgt := 64) hx hb dM_kindAt_27 rfl (fun h8 => ?_) (fun h8 => ?_)
    · have hE := hE.trans (if_pos h8)
      exact b64_3 _ _ _ _ x2 x3 x4 hE hl hP hB hS
    · have hE := hE.trans (if_neg h8)
      refine lv_aload_n hx hb dM_kindAt_30 rfl (lv_at hl 0 rfl) ?_
      refine mget_0_1 hx hb hts inM hown hC hP (hts _ wM_f13) dM_kindAt_31 ?_
      refine lv_iload hx hb dM_kindAt_34 (lv_at hl 4 rfl) ?_
      refine mald_2 hx hb hC hP (vin_c (by decide)) dM_kindAt_36 ?_
      refine lv_iload_n hx hb dM_kindAt_37 rfl (lv_at hl 1 rfl) ?_
      refine lv_icmp_gt (tgt := 64) hx hb dM_kindAt_38 rfl (fun h11 => ?_) (fun h11 => ?_)
      · have hE := hE.trans (if_pos h11)
        exact b64_3 _ _ _ _ x2 x3 x4 hE hl hP hB hS
      · have hE := hE.trans (if_neg h11)
        refine lv_iload_n hx hb dM_kindAt_41 rfl (lv_at hl 1 rfl) ?_
        refine lv_aload_n hx hb dM_kindAt_42 rfl (lv_at hl 0 rfl) ?_
        refine mget_0_2 hx hb hts inM hown hC hP (hts _ wM_f16) dM_kindAt_43 ?_
        refine lv_iload hx hb dM_kindAt_46 (lv_at hl 4 rfl) ?_
        refine mald_3 hx hb hC hP (vin_c (by decide)) dM_kindAt_48 ?_
        refine lv_icmp_gt (tgt := 64) hx hb dM_kindAt_49 rfl (fun h12 => ?_) (fun h12 => ?_)
        · have hE := hE.trans (if_pos h12)
          exact b64_3 _ _ _ _ x2 x3 x4 hE hl hP hB hS
        · have hE := hE.trans (if_neg h12)
          refine lv_iinc (k := 2) (v := (x3 + 1)) (lv' := [(3, .int (x3 + 1)), (0, .ref (q 0)), (2, .int x2), (4, .int x4), (5, .int 3)]) hx hb dM_kindAt_52 hl rfl rfl (by decide) rfl (fun ls hl => ?_)
          refine lv_aload_n hx hb dM_kindAt_55 rfl (lv_at hl 1 rfl) ?_
          refine mget_0_3 hx hb hts inM hown hC hP (hts _ wM_f19) dM_kindAt_56 ?_
          refine lv_iload hx hb dM_kindAt_59 (lv_at hl 4 rfl) ?_
          refine mald_4 hx hb hC hP (vin_c (by decide)) dM_kindAt_61 ?_
          refine lv_istore (lv' := [(4, .int (σ 4 (ix 3))), (3, .int (x3 + 1)), (0, .ref (q 0)), (2, .int x2), (5, .int 3)]) hx hb dM_kindAt_62 hl (by decide) rfl (fun ls hl => ?_)
          have hl := lv_sub hl [2, 3, 1, 0, 4] rfl
          exact b64_3 _ _ _ _ x2 (x3 + 1) (σ 4 (ix 3)) hE hl hP hB hS
  have b64_2 : ∀ (H : Heap) (locs : List Loc) (ls : Array Slot) (σ : St) (x2 : Int32) (x3 : Int32) (x4 : Int32), m_kindAt σ0 a1 = m_kindAt_64_2 σ x2 x3 x4 → lv_has ls 6 [(0, .ref (q 0)), (2, .int x2), (3, .int x3), (4, .int x4), (5, .int 2)] → va_P D vwCl (wsM q cA σ) H → MB σ → va_S (MA q) s.heap H locs → W p l e (headSpec wsM_kindAt { frames := 0, cells := 0, slots := 0, locals := 0 }).room s m ([.ref (q 0), .int a1] : List Value).toArray below meth c H locs 0 0 (MQ below (va_Qi (fun r u => (u, r) = m_kindAt σ0 a1) (MPost D q cA) (MA q)) ([.ref (q 0), .int a1] : List Value).toArray s 0 0 (MA q)) (F0 m 64 ls []) := by
    intro H locs ls σ x2 x3 x4 hE hl hP hB hS
    refine lv_iinc (k := 4) (v := 3) (lv' := [(5, .int 3), (0, .ref (q 0)), (2, .int x2), (3, .int x3), (4, .int x4)]) hx hb dM_kindAt_64 hl rfl (by decide) (by decide) rfl (fun ls hl => ?_)
    refine lv_goto (tgt := 14) hx hb dM_kindAt_67 rfl ?_
    have hl := lv_sub hl [1, 2, 3, 4, 0] rfl
    exact b14_3 _ _ _ _ x2 x3 x4 hE hl hP hB hS
  have b14_2 : ∀ (H : Heap) (locs : List Loc) (ls : Array Slot) (σ : St) (x2 : Int32) (x3 : Int32) (x4 : Int32), m_kindAt σ0 a1 = m_kindAt_14_2 σ x2 x3 x4 → lv_has ls 6 [(0, .ref (q 0)), (2, .int x2), (3, .int x3), (4, .int x4), (5, .int 2)] → va_P D vwCl (wsM q cA σ) H → MB σ → va_S (MA q) s.heap H locs → W p l e (headSpec wsM_kindAt { frames := 0, cells := 0, slots := 0, locals := 0 }).room s m ([.ref (q 0), .int a1] : List Value).toArray below meth c H locs 0 0 (MQ below (va_Qi (fun r u => (u, r) = m_kindAt σ0 a1) (MPost D q cA) (MA q)) ([.ref (q 0), .int a1] : List Value).toArray s 0 0 (MA q)) (F0 m 14 ls []) := by
    intro H locs ls σ x2 x3 x4 hE hl hP hB hS
    refine lv_iload hx hb dM_kindAt_14 (lv_at hl 4 rfl) ?_
    refine lv_iconst (v := 4) hx hb dM_kindAt_16 (by decide) ?_
    refine lv_icmp_ge (tgt := 70) hx hb dM_kindAt_17 rfl (fun h5 => absurd h5 (by decide)) (fun _ => ?_)
    refine lv_aload_n hx hb dM_kindAt_20 rfl (lv_at hl 0 rfl) ?_
    refine mget_0_3 hx hb hts inM hown hC hP (hts _ wM_f19) dM_kindAt_21 ?_
    refine lv_iload hx hb dM_kindAt_24 (lv_at hl 4 rfl) ?_
    refine mald_4 hx hb hC hP (vin_c (by decide)) dM_kindAt_26 ?_
    refine lv_if_eq (tgt := 64) hx hb dM_kindAt_27 rfl (fun h6 => ?_) (fun h6 => ?_)
    · have hE := hE.trans (if_pos h6)
      exact b64_2 _ _ _ _ x2 x3 x4 hE hl hP hB hS
    · have hE := hE.trans (if_neg h6)
      refine lv_aload_n hx hb dM_kindAt_30 rfl (lv_at hl 0 rfl) ?_
      refine mget_0_1 hx hb hts inM hown hC hP (hts _ wM_f13) dM_kindAt_31 ?_
      refine lv_iload hx hb dM_kindAt_34 (lv_at hl 4 rfl) ?_
      refine mald_2 hx hb hC hP (vin_c (by decide)) dM_kindAt_36 ?_
      refine lv_iload_n hx hb dM_kindAt_37 rfl (lv_at hl 1 rfl) ?_
      refine lv_icmp_gt (tgt := 64) hx hb dM_kindAt_38 rfl (fun h13 => ?_) (fun h13 => ?_)
      · have hE := hE.trans (if_pos h13)
        exact b64_2 _ _ _ _ x2 x3 x4 hE hl hP hB hS
      · have hE := hE.trans (if_neg h13)
        refine lv_iload_n hx hb dM_kindAt_41 rfl (lv_at hl 1 rfl) ?_
        refine lv_aload_n hx hb dM_kindAt_42 rfl (lv_at hl 0 rfl) ?_
        refine mget_0_2 hx hb hts inM hown hC hP (hts _ wM_f16) dM_kindAt_43 ?_
        refine lv_iload hx hb dM_kindAt_46 (lv_at hl 4 rfl) ?_
        refine mald_3 hx hb hC hP (vin_c (by decide)) dM_kindAt_48 ?_
        refine lv_icmp_gt (tgt := 64) hx hb dM_kindAt_49 rfl (fun h14 => ?_) (fun h14 => ?_)
        · have hE := hE.trans (if_pos h14)
          exact b64_2 _ _ _ _ x2 x3 x4 hE hl hP hB hS
        · have hE := hE.trans (if_neg h14)
          refine lv_iinc (k := 2) (v := (x3 + 1)) (lv' := [(3, .int (x3 + 1)), (0, .ref (q 0)), (2, .int x2), (4, .int x4), (5, .int 2)]) hx hb dM_kindAt_52 hl rfl rfl (by decide) rfl (fun ls hl => ?_)
          refine lv_aload_n hx hb dM_kindAt_55 rfl (lv_at hl 1 rfl) ?_
          refine mget_0_3 hx hb hts inM hown hC hP (hts _ wM_f19) dM_kindAt_56 ?_
          refine lv_iload hx hb dM_kindAt_59 (lv_at hl 4 rfl) ?_
          refine mald_4 hx hb hC hP (vin_c (by decide)) dM_kindAt_61 ?_
          refine lv_istore (lv' := [(4, .int (σ 4 (ix 2))), (3, .int (x3 + 1)), (0, .ref (q 0)), (2, .int x2), (5, .int 2)]) hx hb dM_kindAt_62 hl (by decide) rfl (fun ls hl => ?_)
          have hl := lv_sub hl [2, 3, 1, 0, 4] rfl
          exact b64_2 _ _ _ _ x2 (x3 + 1) (σ 4 (ix 2)) hE hl hP hB hS
  have b64_1 : ∀ (H : Heap) (locs : List Loc) (ls : Array Slot) (σ : St) (x2 : Int32) (x3 : Int32) (x4 : Int32), m_kindAt σ0 a1 = m_kindAt_64_1 σ x2 x3 x4 → lv_has ls 6 [(0, .ref (q 0)), (2, .int x2), (3, .int x3), (4, .int x4), (5, .int 1)] → va_P D vwCl (wsM q cA σ) H → MB σ → va_S (MA q) s.heap H locs → W p l e (headSpec wsM_kindAt { frames := 0, cells := 0, slots := 0, locals := 0 }).room s m ([.ref (q 0), .int a1] : List Value).toArray below meth c H locs 0 0 (MQ below (va_Qi (fun r u => (u, r) = m_kindAt σ0 a1) (MPost D q cA) (MA q)) ([.ref (q 0), .int a1] : List Value).toArray s 0 0 (MA q)) (F0 m 64 ls []) := by
    intro H locs ls σ x2 x3 x4 hE hl hP hB hS
    refine lv_iinc (k := 4) (v := 2) (lv' := [(5, .int 2), (0, .ref (q 0)), (2, .int x2), (3, .int x3), (4, .int x4)]) hx hb dM_kindAt_64 hl rfl (by decide) (by decide) rfl (fun ls hl => ?_)
    refine lv_goto (tgt := 14) hx hb dM_kindAt_67 rfl ?_
    have hl := lv_sub hl [1, 2, 3, 4, 0] rfl
    exact b14_2 _ _ _ _ x2 x3 x4 hE hl hP hB hS
  have b14_1 : ∀ (H : Heap) (locs : List Loc) (ls : Array Slot) (σ : St) (x2 : Int32) (x3 : Int32) (x4 : Int32), m_kindAt σ0 a1 = m_kindAt_14_1 σ x2 x3 x4 → lv_has ls 6 [(0, .ref (q 0)), (2, .int x2), (3, .int x3), (4, .int x4), (5, .int 1)] → va_P D vwCl (wsM q cA σ) H → MB σ → va_S (MA q) s.heap H locs → W p l e (headSpec wsM_kindAt { frames := 0, cells := 0, slots := 0, locals := 0 }).room s m ([.ref (q 0), .int a1] : List Value).toArray below meth c H locs 0 0 (MQ below (va_Qi (fun r u => (u, r) = m_kindAt σ0 a1) (MPost D q cA) (MA q)) ([.ref (q 0), .int a1] : List Value).toArray s 0 0 (MA q)) (F0 m 14 ls []) := by
    intro H locs ls σ x2 x3 x4 hE hl hP hB hS
    refine lv_iload hx hb dM_kindAt_14 (lv_at hl 4 rfl) ?_
    refine lv_iconst (v := 4) hx hb dM_kindAt_16 (by decide) ?_
    refine lv_icmp_ge (tgt := 70) hx hb dM_kindAt_17 rfl (fun h3 => absurd h3 (by decide)) (fun _ => ?_)
    refine lv_aload_n hx hb dM_kindAt_20 rfl (lv_at hl 0 rfl) ?_
    refine mget_0_3 hx hb hts inM hown hC hP (hts _ wM_f19) dM_kindAt_21 ?_
    refine lv_iload hx hb dM_kindAt_24 (lv_at hl 4 rfl) ?_
    refine mald_4 hx hb hC hP (vin_c (by decide)) dM_kindAt_26 ?_
    refine lv_if_eq (tgt := 64) hx hb dM_kindAt_27 rfl (fun h4 => ?_) (fun h4 => ?_)
    · have hE := hE.trans (if_pos h4)
      exact b64_1 _ _ _ _ x2 x3 x4 hE hl hP hB hS
    · have hE := hE.trans (if_neg h4)
      refine lv_aload_n hx hb dM_kindAt_30 rfl (lv_at hl 0 rfl) ?_
      refine mget_0_1 hx hb hts inM hown hC hP (hts _ wM_f13) dM_kindAt_31 ?_
      refine lv_iload hx hb dM_kindAt_34 (lv_at hl 4 rfl) ?_
      refine mald_2 hx hb hC hP (vin_c (by decide)) dM_kindAt_36 ?_
      refine lv_iload_n hx hb dM_kindAt_37 rfl (lv_at hl 1 rfl) ?_
      refine lv_icmp_gt (tgt := 64) hx hb dM_kindAt_38 rfl (fun h15 => ?_) (fun h15 => ?_)
      · have hE := hE.trans (if_pos h15)
        exact b64_1 _ _ _ _ x2 x3 x4 hE hl hP hB hS
      · have hE := hE.trans (if_neg h15)
        refine lv_iload_n hx hb dM_kindAt_41 rfl (lv_at hl 1 rfl) ?_
        refine lv_aload_n hx hb dM_kindAt_42 rfl (lv_at hl 0 rfl) ?_
        refine mget_0_2 hx hb hts inM hown hC hP (hts _ wM_f16) dM_kindAt_43 ?_
        refine lv_iload hx hb dM_kindAt_46 (lv_at hl 4 rfl) ?_
        refine mald_3 hx hb hC hP (vin_c (by decide)) dM_kindAt_48 ?_
        refine lv_icmp_gt (tgt := 64) hx hb dM_kindAt_49 rfl (fun h16 => ?_) (fun h16 => ?_)
        · have hE := hE.trans (if_pos h16)
          exact b64_1 _ _ _ _ x2 x3 x4 hE hl hP hB hS
        · have hE := hE.trans (if_neg h16)
          refine lv_iinc (k := 2) (v := (x3 + 1)) (lv' := [(3, .int (x3 + 1)), (0, .ref (q 0)), (2, .int x2), (4, .int x4), (5, .int 1)]) hx hb dM_kindAt_52 hl rfl rfl (by decide) rfl (fun ls hl => ?_)
          refine lv_aload_n hx hb dM_kindAt_55 rfl (lv_at hl 1 rfl) ?_
          refine mget_0_3 hx hb hts inM hown hC hP (hts _ wM_f19) dM_kindAt_56 ?_
          refine lv_iload hx hb dM_kindAt_59 (lv_at hl 4 rfl) ?_
          refine mald_4 hx hb hC hP (vin_c (by decide)) dM_kindAt_61 ?_
          refine lv_istore (lv' := [(4, .int (σ 4 (ix 1))), (3, .int (x3 + 1)), (0, .ref (q 0)), (2, .int x2), (5, .int 1)]) hx hb dM_kindAt_62 hl (by decide) rfl (fun ls hl => ?_)
          have hl := lv_sub hl [2, 3, 1, 0, 4] rfl
          exact b64_1 _ _ _ _ x2 (x3 + 1) (σ 4 (ix 1)) hE hl hP hB hS
  have b64_0 : ∀ (H : Heap) (locs : List Loc) (ls : Array Slot) (σ : St) (x2 : Int32) (x3 : Int32) (x4 : Int32), m_kindAt σ0 a1 = m_kindAt_64_0 σ x2 x3 x4 → lv_has ls 6 [(0, .ref (q 0)), (2, .int x2), (3, .int x3), (4, .int x4), (5, .int 0)] → va_P D vwCl (wsM q cA σ) H → MB σ → va_S (MA q) s.heap H locs → W p l e (headSpec wsM_kindAt { frames := 0, cells := 0, slots := 0, locals := 0 }).room s m ([.ref (q 0), .int a1] : List Value).toArray below meth c H locs 0 0 (MQ below (va_Qi (fun r u => (u, r) = m_kindAt σ0 a1) (MPost D q cA) (MA q)) ([.ref (q 0), .int a1] : List Value).toArray s 0 0 (MA q)) (F0 m 64 ls []) := by
    intro H locs ls σ x2 x3 x4 hE hl hP hB hS
    refine lv_iinc (k := 4) (v := 1) (lv' := [(5, .int 1), (0, .ref (q 0)), (2, .int x2), (3, .int x3), (4, .int x4)]) hx hb dM_kindAt_64 hl rfl (by decide) (by decide) rfl (fun ls hl => ?_)
    refine lv_goto (tgt := 14) hx hb dM_kindAt_67 rfl ?_
    have hl := lv_sub hl [1, 2, 3, 4, 0] rfl
    exact b14_1 _ _ _ _ x2 x3 x4 hE hl hP hB hS
  have b14_0 : ∀ (H : Heap) (locs : List Loc) (ls : Array Slot) (σ : St) (x2 : Int32) (x3 : Int32) (x4 : Int32), m_kindAt σ0 a1 = m_kindAt_14_0 σ x2 x3 x4 → lv_has ls 6 [(0, .ref (q 0)), (2, .int x2), (3, .int x3), (4, .int x4), (5, .int 0)] → va_P D vwCl (wsM q cA σ) H → MB σ → va_S (MA q) s.heap H locs → W p l e (headSpec wsM_kindAt { frames := 0, cells := 0, slots := 0, locals := 0 }).room s m ([.ref (q 0), .int a1] : List Value).toArray below meth c H locs 0 0 (MQ below (va_Qi (fun r u => (u, r) = m_kindAt σ0 a1) (MPost D q cA) (MA q)) ([.ref (q 0), .int a1] : List Value).toArray s 0 0 (MA q)) (F0 m 14 ls []) := by
    intro H locs ls σ x2 x3 x4 hE hl hP hB hS
    refine lv_iload hx hb dM_kindAt_14 (lv_at hl 4 rfl) ?_
    refine lv_iconst (v := 4) hx hb dM_kindAt_16 (by decide) ?_
    refine lv_icmp_ge (tgt := 70) hx hb dM_kindAt_17 rfl (fun h1 => absurd h1 (by decide)) (fun _ => ?_)
    refine lv_aload_n hx hb dM_kindAt_20 rfl (lv_at hl 0 rfl) ?_
    refine mget_0_3 hx hb hts inM hown hC hP (hts _ wM_f19) dM_kindAt_21 ?_
    refine lv_iload hx hb dM_kindAt_24 (lv_at hl 4 rfl) ?_
    refine mald_4 hx hb hC hP (vin_c (by decide)) dM_kindAt_26 ?_
    refine lv_if_eq (tgt := 64) hx hb dM_kindAt_27 rfl (fun h2 => ?_) (fun h2 => ?_)
    · have hE := hE.trans (if_pos h2)
      exact b64_0 _ _ _ _ x2 x3 x4 hE hl hP hB hS
    · have hE := hE.trans (if_neg h2)
      refine lv_aload_n hx hb dM_kindAt_30 rfl (lv_at hl 0 rfl) ?_
      refine mget_0_1 hx hb hts inM hown hC hP (hts _ wM_f13) dM_kindAt_31 ?_
      refine lv_iload hx hb dM_kindAt_34 (lv_at hl 4 rfl) ?_
      refine mald_2 hx hb hC hP (vin_c (by decide)) dM_kindAt_36 ?_
      refine lv_iload_n hx hb dM_kindAt_37 rfl (lv_at hl 1 rfl) ?_
      refine lv_icmp_gt (tgt := 64) hx hb dM_kindAt_38 rfl (fun h17 => ?_) (fun h17 => ?_)
      · have hE := hE.trans (if_pos h17)
        exact b64_0 _ _ _ _ x2 x3 x4 hE hl hP hB hS
      · have hE := hE.trans (if_neg h17)
        refine lv_iload_n hx hb dM_kindAt_41 rfl (lv_at hl 1 rfl) ?_
        refine lv_aload_n hx hb dM_kindAt_42 rfl (lv_at hl 0 rfl) ?_
        refine mget_0_2 hx hb hts inM hown hC hP (hts _ wM_f16) dM_kindAt_43 ?_
        refine lv_iload hx hb dM_kindAt_46 (lv_at hl 4 rfl) ?_
        refine mald_3 hx hb hC hP (vin_c (by decide)) dM_kindAt_48 ?_
        refine lv_icmp_gt (tgt := 64) hx hb dM_kindAt_49 rfl (fun h18 => ?_) (fun h18 => ?_)
        · have hE := hE.trans (if_pos h18)
          exact b64_0 _ _ _ _ x2 x3 x4 hE hl hP hB hS
        · have hE := hE.trans (if_neg h18)
          refine lv_iinc (k := 2) (v := (x3 + 1)) (lv' := [(3, .int (x3 + 1)), (0, .ref (q 0)), (2, .int x2), (4, .int x4), (5, .int 0)]) hx hb dM_kindAt_52 hl rfl rfl (by decide) rfl (fun ls hl => ?_)
          refine lv_aload_n hx hb dM_kindAt_55 rfl (lv_at hl 1 rfl) ?_
          refine mget_0_3 hx hb hts inM hown hC hP (hts _ wM_f19) dM_kindAt_56 ?_
          refine lv_iload hx hb dM_kindAt_59 (lv_at hl 4 rfl) ?_
          refine mald_4 hx hb hC hP (vin_c (by decide)) dM_kindAt_61 ?_
          refine lv_istore (lv' := [(4, .int (σ 4 (ix 0))), (3, .int (x3 + 1)), (0, .ref (q 0)), (2, .int x2), (5, .int 0)]) hx hb dM_kindAt_62 hl (by decide) rfl (fun ls hl => ?_)
          have hl := lv_sub hl [2, 3, 1, 0, 4] rfl
          exact b64_0 _ _ _ _ x2 (x3 + 1) (σ 4 (ix 0)) hE hl hP hB hS
  refine lv_iload_n hx hb dM_kindAt_0 rfl (lv_at hl 1 rfl) ?_
  refine lv_sipush (v := 255) hx hb dM_kindAt_1 (by decide) ?_
  refine lv_iand hx hb dM_kindAt_4 ?_
  refine lv_istore_n (lv' := [(2, .int (a1 &&& 255)), (0, .ref (q 0)), (1, .int a1)]) hx hb dM_kindAt_5 rfl hl (by decide) rfl (fun ls hl => ?_)
  refine lv_iconst (v := 0) hx hb dM_kindAt_6 (by decide) ?_
  refine lv_istore_n (lv' := [(3, .int 0), (2, .int (a1 &&& 255)), (0, .ref (q 0)), (1, .int a1)]) hx hb dM_kindAt_7 rfl hl (by decide) rfl (fun ls hl => ?_)
  refine lv_iconst (v := 0) hx hb dM_kindAt_8 (by decide) ?_
  refine lv_istore (lv' := [(4, .int 0), (3, .int 0), (2, .int (a1 &&& 255)), (0, .ref (q 0)), (1, .int a1)]) hx hb dM_kindAt_9 hl (by decide) rfl (fun ls hl => ?_)
  refine lv_iconst (v := 0) hx hb dM_kindAt_11 (by decide) ?_
  refine lv_istore (lv' := [(5, .int 0), (4, .int 0), (3, .int 0), (2, .int (a1 &&& 255)), (0, .ref (q 0)), (1, .int a1)]) hx hb dM_kindAt_12 hl (by decide) rfl (fun ls hl => ?_)
  have hl := lv_sub hl [4, 3, 2, 1, 0] rfl
  exact b14_0 _ _ _ _ (a1 &&& 255) 0 0 hE hl hP hB hS
set_option maxRecDepth 100000 in
set_option maxHeartbeats 4000000 in
theorem c_m_isOpenWorld (l : Launch) (D : va_G) (q : Nat → Nat) (cA : ClassId) (σ0 : St) : Met l yM_isOpenWorld wsM_isOpenWorld { frames := 0, cells := 0, slots := 0, locals := 0 } (va_Pc [.ref (q 0)] (MPre D q cA σ0)) (va_Qi (fun r u => (u, r) = m_isOpenWorld σ0 ∧ zb r) (MPost D q cA) (MA q)) 0 0 (MA q) := by
  refine Met.ofW (cc := cM_isOpenWorld) (maxL := 1) (ret := (some .boolean)) (by decide) rfl ?_
  intro p e s m args below meth c s₁ B hml hv
  obtain ⟨rfl, hP, hB, hC⟩ := hv
  have hx := B.exec
  have hb := B.bytes
  have hr := B.returns
  have hts : ∀ w ∈ gw, w.before ([.ref (q 0)] : List Value).toArray s = true := fun w h => atoms_spec (ws := wsM_isOpenWorld) B.pre w (List.mem_cons_of_mem _ h)
  have hown : s.vm.findClass RM = some m.cls := findClass_of_methodNamed B.named
  have hlocks := B.notSynchronized
  have hS : va_S (MA q) s.heap s.heap [] := va_S.rf
  have hl := lv_entry ([.ref (q 0)]) (n := 1) (Nat.le_of_ble_eq_true rfl)
  rw [lg_entry_eq]
  generalize (lg_sl ([.ref (q 0)]) ++ List.replicate (1 - (lg_sl ([.ref (q 0)])).length) Slot.unset).toArray = ls at hl ⊢
  have hl : lv_has ls 1 [(0, .ref (q 0))] := hl
  have hE : m_isOpenWorld σ0 = m_isOpenWorld σ0 := rfl
  have b16 : ∀ (H : Heap) (locs : List Loc) (ls : Array Slot) (σ : St) (y0 : Int32), zb y0 → m_isOpenWorld σ0 = m_isOpenWorld_16 σ y0 → lv_has ls 1 [] → va_P D vwCl (wsM q cA σ) H → MB σ → va_S (MA q) s.heap H locs → W p l e (headSpec wsM_isOpenWorld { frames := 0, cells := 0, slots := 0, locals := 0 }).room s m ([.ref (q 0)] : List Value).toArray below meth c H locs 0 0 (MQ below (va_Qi (fun r u => (u, r) = m_isOpenWorld σ0 ∧ zb r) (MPost D q cA) (MA q)) ([.ref (q 0)] : List Value).toArray s 0 0 (MA q)) (F0 m 16 ls [.int y0]) := by
    intro H locs ls σ y0 hz_y0 hE hl hP hB hS
    exact W.zret (v := y0) hx hb hr (zb_n hz_y0).1 (fun t ht hW => ⟨⟨y0, σ, rfl, ⟨hE.symm, hz_y0⟩, ⟨by rw [ht]; exact hP, hB⟩⟩, hS.F ht⟩) hS.2.2 dM_isOpenWorld_16
  refine lv_aload_n hx hb dM_isOpenWorld_0 rfl (lv_at hl 0 rfl) ?_
  refine mget_0_8 hx hb hts inM hown hC hP (hts _ wM_f26) dM_isOpenWorld_1 ?_
  refine lv_bipush (v := 11) hx hb dM_isOpenWorld_4 (by decide) ?_
  refine mald_5 hx hb hC hP (vin_c (by decide)) dM_isOpenWorld_6 ?_
  refine lv_iconst (v := 1) hx hb dM_isOpenWorld_7 (by decide) ?_
  refine lv_icmp_ne (tgt := 15) hx hb dM_isOpenWorld_8 rfl (fun h1 => ?_) (fun h1 => ?_)
  · have hE := hE.trans (if_neg h1)
    refine lv_iconst (v := 0) hx hb dM_isOpenWorld_15 (by decide) ?_
    have hl := lv_sub hl [] rfl
    exact b16 _ _ _ _ 0 (by decide) hE hl hP hB hS
  · have hE := hE.trans (if_pos h1)
    refine lv_iconst (v := 1) hx hb dM_isOpenWorld_11 (by decide) ?_
    refine lv_goto (tgt := 16) hx hb dM_isOpenWorld_12 rfl ?_
    have hl := lv_sub hl [] rfl
    exact b16 _ _ _ _ 1 (by decide) hE hl hP hB hS
set_option maxRecDepth 100000 in
set_option maxHeartbeats 4000000 in
theorem c_m_speak (l : Launch) (D : va_G) (q : Nat → Nat) (cA : ClassId) (σ0 : St) (a1 : Int32) : Met l yM_speak wsM_speak { frames := 0, cells := 0, slots := 0, locals := 0 } (va_Pc [.ref (q 0), .int a1] (MPre D q cA σ0)) (va_Qv (fun u => u = m_speak σ0 a1) (MPost D q cA) (MA q)) 0 0 (MA q) := by
  refine Met.ofW (cc := cM_speak) (maxL := 2) (ret := none) (by decide) rfl ?_
  intro p e s m args below meth c s₁ B hml hv
  obtain ⟨rfl, hP, hB, hC⟩ := hv
  have hx := B.exec
  have hb := B.bytes
  have hr := B.returns
  have hts : ∀ w ∈ gw, w.before ([.ref (q 0), .int a1] : List Value).toArray s = true := fun w h => atoms_spec (ws := wsM_speak) B.pre w (List.mem_cons_of_mem _ h)
  have hown : s.vm.findClass RM = some m.cls := findClass_of_methodNamed B.named
  have hlocks := B.notSynchronized
  have hS : va_S (MA q) s.heap s.heap [] := va_S.rf
  have hl := lv_entry ([.ref (q 0), .int a1]) (n := 2) (Nat.le_of_ble_eq_true rfl)
  rw [lg_entry_eq]
  generalize (lg_sl ([.ref (q 0), .int a1]) ++ List.replicate (2 - (lg_sl ([.ref (q 0), .int a1])).length) Slot.unset).toArray = ls at hl ⊢
  have hl : lv_has ls 2 [(0, .ref (q 0)), (1, .int a1)] := hl
  have hE : m_speak σ0 a1 = m_speak σ0 a1 := rfl
  have b12 : ∀ (H : Heap) (locs : List Loc) (ls : Array Slot) (σ : St), m_speak σ0 a1 = m_speak_12 σ → lv_has ls 2 [] → va_P D vwCl (wsM q cA σ) H → MB σ → va_S (MA q) s.heap H locs → W p l e (headSpec wsM_speak { frames := 0, cells := 0, slots := 0, locals := 0 }).room s m ([.ref (q 0), .int a1] : List Value).toArray below meth c H locs 0 0 (MQ below (va_Qv (fun u => u = m_speak σ0 a1) (MPost D q cA) (MA q)) ([.ref (q 0), .int a1] : List Value).toArray s 0 0 (MA q)) (F0 m 12 ls []) := by
    intro H locs ls σ hE hl hP hB hS
    exact W.vret hx hb hr (fun t ht hW => ⟨⟨σ, rfl, hE.symm, ⟨by rw [ht]; exact hP, hB⟩⟩, hS.F ht⟩) hS.2.2 dM_speak_12
  refine lv_aload_n hx hb dM_speak_0 rfl (lv_at hl 0 rfl) ?_
  refine mget_0_14 hx hb hts inM hown hC hP (hts _ wM_f58) dM_speak_1 ?_
  refine lv_if_ne (tgt := 12) hx hb dM_speak_4 rfl (fun h1 => ?_) (fun h1 => ?_)
  · have hE := hE.trans (if_neg h1)
    have hl := lv_sub hl [] rfl
    exact b12 _ _ _ _ hE hl hP hB hS
  · have hE := hE.trans (if_pos h1)
    refine lv_aload_n hx hb dM_speak_7 rfl (lv_at hl 0 rfl) ?_
    refine lv_iload_n hx hb dM_speak_8 rfl (lv_at hl 1 rfl) ?_
    refine mput_0_14 hx hb hts inM hown hC hP (hts _ wM_f58) hS dM_speak_9 (fun σ2 H locs e2 hP hS => ?_)
    have hE := hE.trans (bd_e e2)
    have hB : MB σ2 := by rw [e2]; exact hB
    have hl := lv_sub hl [] rfl
    exact b12 _ _ _ _ hE hl hP hB hS
set_option maxRecDepth 100000 in
set_option maxHeartbeats 4000000 in
theorem c_m_mayUse (l : Launch) (D : va_G) (q : Nat → Nat) (cA : ClassId) (σ0 : St) (a1 : Int32) : Met l yM_mayUse wsM_mayUse { frames := 1, cells := 0, slots := 0, locals := 25 } (va_Pc [.ref (q 0), .int a1] (MPre D q cA σ0)) (va_Qi (fun r u => (u, r) = m_mayUse σ0 a1 ∧ zb r) (MPost D q cA) (MA q)) 0 0 (MA q) := by
  refine Met.ofW (cc := cM_mayUse) (maxL := 2) (ret := (some .boolean)) (by decide) rfl ?_
  intro p e s m args below meth c s₁ B hml hv
  obtain ⟨rfl, hP, hB, hC⟩ := hv
  have hx := B.exec
  have hb := B.bytes
  have hr := B.returns
  have hts : ∀ w ∈ gw, w.before ([.ref (q 0), .int a1] : List Value).toArray s = true := fun w h => atoms_spec (ws := wsM_mayUse) B.pre w (List.mem_cons_of_mem _ h)
  have hown : s.vm.findClass RM = some m.cls := findClass_of_methodNamed B.named
  have hlocks := B.notSynchronized
  have hS : va_S (MA q) s.heap s.heap [] := va_S.rf
  have hl := lv_entry ([.ref (q 0), .int a1]) (n := 2) (Nat.le_of_ble_eq_true rfl)
  rw [lg_entry_eq]
  generalize (lg_sl ([.ref (q 0), .int a1]) ++ List.replicate (2 - (lg_sl ([.ref (q 0), .int a1])).length) Slot.unset).toArray = ls at hl ⊢
  have hl : lv_has ls 2 [(0, .ref (q 0)), (1, .int a1)] := hl
  have hE : m_mayUse σ0 a1 = m_mayUse σ0 a1 := rfl
  have b21 : ∀ (H : Heap) (locs : List Loc) (ls : Array Slot) (σ : St) (y0 : Int32), zb y0 → m_mayUse σ0 a1 = m_mayUse_21 σ y0 → lv_has ls 2 [] → va_P D vwCl (wsM q cA σ) H → MB σ → va_S (MA q) s.heap H locs → W p l e (headSpec wsM_mayUse { frames := 1, cells := 0, slots := 0, locals := 25 }).room s m ([.ref (q 0), .int a1] : List Value).toArray below meth c H locs 0 0 (MQ below (va_Qi (fun r u => (u, r) = m_mayUse σ0 a1 ∧ zb r) (MPost D q cA) (MA q)) ([.ref (q 0), .int a1] : List Value).toArray s 0 0 (MA q)) (F0 m 21 ls [.int y0]) := by
    intro H locs ls σ y0 hz_y0 hE hl hP hB hS
    exact W.zret (v := y0) hx hb hr (zb_n hz_y0).1 (fun t ht hW => ⟨⟨y0, σ, rfl, ⟨hE.symm, hz_y0⟩, ⟨by rw [ht]; exact hP, hB⟩⟩, hS.F ht⟩) hS.2.2 dM_mayUse_21
  have b16 : ∀ (H : Heap) (locs : List Loc) (ls : Array Slot) (σ : St), m_mayUse σ0 a1 = m_mayUse_16 σ → lv_has ls 2 [] → va_P D vwCl (wsM q cA σ) H → MB σ → va_S (MA q) s.heap H locs → W p l e (headSpec wsM_mayUse { frames := 1, cells := 0, slots := 0, locals := 25 }).room s m ([.ref (q 0), .int a1] : List Value).toArray below meth c H locs 0 0 (MQ below (va_Qi (fun r u => (u, r) = m_mayUse σ0 a1 ∧ zb r) (MPost D q cA) (MA q)) ([.ref (q 0), .int a1] : List Value).toArray s 0 0 (MA q)) (F0 m 16 ls []) := by
    intro H locs ls σ hE hl hP hB hS
    refine lv_iconst (v := 1) hx hb dM_mayUse_16 (by decide) ?_
    refine lv_goto (tgt := 21) hx hb dM_mayUse_17 rfl ?_
    exact b21 _ _ _ _ 1 (by decide) hE hl hP hB hS
  refine lv_aload_n hx hb dM_mayUse_0 rfl (lv_at hl 0 rfl) ?_
  refine mcalli (rest := []) ⟨hx, hb, hml, hown, hts⟩ hC hP hB hS (c_m_isOpenWorld l D q cA σ0) (cwV 0 hts gM_61 rfl rfl rfl hdM_isOpenWorld ⟨Nat.le_of_ble_eq_true rfl, Nat.le_of_ble_eq_true rfl⟩) (mrv_0 hC hP) rfl hl.1 rfl (Nat.le_of_ble_eq_true rfl) dM_mayUse_1 (fun σ1 v2 H locs e1 hP hB hS => ?_)
  have z1 : zb v2 := e1.2
  have hE := hE.trans (bd2_e e1.1)
  refine lv_if_eq (tgt := 16) hx hb dM_mayUse_4 rfl (fun h3 => ?_) (fun h3 => ?_)
  · have hE := hE.trans (if_pos h3)
    have hl := lv_sub hl [] rfl
    exact b16 _ _ _ _ hE hl hP hB hS
  · have hE := hE.trans (if_neg h3)
    refine lv_aload_n hx hb dM_mayUse_7 rfl (lv_at hl 0 rfl) ?_
    refine lv_iload_n hx hb dM_mayUse_8 rfl (lv_at hl 1 rfl) ?_
    refine mcalli (rest := []) ⟨hx, hb, hml, hown, hts⟩ hC hP hB hS (c_m_kindAt l D q cA σ1 a1) (cwV 1 hts gM_65 rfl rfl rfl hdM_kindAt ⟨Nat.le_of_ble_eq_true rfl, Nat.le_of_ble_eq_true rfl⟩) (mrv_0 hC hP) rfl hl.1 rfl (Nat.le_of_ble_eq_true rfl) dM_mayUse_9 (fun σ4 v5 H locs e4 hP hB hS => ?_)
    have hE := hE.trans (bd2_e e4)
    refine lv_iconst (v := 1) hx hb dM_mayUse_12 (by decide) ?_
    refine lv_icmp_ne (tgt := 20) hx hb dM_mayUse_13 rfl (fun h6 => ?_) (fun h6 => ?_)
    · have hE := hE.trans (if_neg h6)
      refine lv_iconst (v := 0) hx hb dM_mayUse_20 (by decide) ?_
      have hl := lv_sub hl [] rfl
      exact b21 _ _ _ _ 0 (by decide) hE hl hP hB hS
    · have hE := hE.trans (if_pos h6)
      have hl := lv_sub hl [] rfl
      exact b16 _ _ _ _ hE hl hP hB hS
set_option maxRecDepth 100000 in
set_option maxHeartbeats 4000000 in
theorem c_m_read (l : Launch) (D : va_G) (q : Nat → Nat) (cA : ClassId) (σ0 : St) (a1 : Int32) : Met l yM_read wsM_read { frames := 2, cells := 0, slots := 0, locals := 46 } (va_Pc [.ref (q 0), .int a1] (MPre D q cA σ0)) (va_Qi (fun r u => (u, r) = m_read σ0 a1) (MPost D q cA) (MA q)) 0 0 (MA q) := by
  refine Met.ofW (cc := cM_read) (maxL := 2) (ret := (some .int)) (by decide) rfl ?_
  intro p e s m args below meth c s₁ B hml hv
  obtain ⟨rfl, hP, hB, hC⟩ := hv
  have hx := B.exec
  have hb := B.bytes
  have hr := B.returns
  have hts : ∀ w ∈ gw, w.before ([.ref (q 0), .int a1] : List Value).toArray s = true := fun w h => atoms_spec (ws := wsM_read) B.pre w (List.mem_cons_of_mem _ h)
  have hown : s.vm.findClass RM = some m.cls := findClass_of_methodNamed B.named
  have hlocks := B.notSynchronized
  have hS : va_S (MA q) s.heap s.heap [] := va_S.rf
  have hl := lv_entry ([.ref (q 0), .int a1]) (n := 2) (Nat.le_of_ble_eq_true rfl)
  rw [lg_entry_eq]
  generalize (lg_sl ([.ref (q 0), .int a1]) ++ List.replicate (2 - (lg_sl ([.ref (q 0), .int a1])).length) Slot.unset).toArray = ls at hl ⊢
  have hl : lv_has ls 2 [(0, .ref (q 0)), (1, .int a1)] := hl
  have hE : m_read σ0 a1 = m_read σ0 a1 := rfl
  have b13 : ∀ (H : Heap) (locs : List Loc) (ls : Array Slot) (σ : St) (x1 : Int32), m_read σ0 a1 = m_read_13 σ x1 → lv_has ls 2 [(0, .ref (q 0)), (1, .int x1)] → va_P D vwCl (wsM q cA σ) H → MB σ → va_S (MA q) s.heap H locs → W p l e (headSpec wsM_read { frames := 2, cells := 0, slots := 0, locals := 46 }).room s m ([.ref (q 0), .int a1] : List Value).toArray below meth c H locs 0 0 (MQ below (va_Qi (fun r u => (u, r) = m_read σ0 a1) (MPost D q cA) (MA q)) ([.ref (q 0), .int a1] : List Value).toArray s 0 0 (MA q)) (F0 m 13 ls []) := by
    intro H locs ls σ x1 hE hl hP hB hS
    refine lv_aload_n hx hb dM_read_13 rfl (lv_at hl 0 rfl) ?_
    refine mget_0_0 hx hb hts inM hown hC hP (hts _ wM_f7) dM_read_14 ?_
    refine lv_iload_n hx hb dM_read_17 rfl (lv_at hl 1 rfl) ?_
    refine lv_sipush (v := 255) hx hb dM_read_18 (by decide) ?_
    refine lv_iand hx hb dM_read_21 ?_
    refine mald_1 hx hb hC hP (vin_m 8 (by decide) (by decide) (by decide)) dM_read_22 ?_
    exact W.iret (v := (σ 1 (ix (x1 &&& 255)))) hx hb hr (fun t ht hW => ⟨⟨(σ 1 (ix (x1 &&& 255))), σ, rfl, hE.symm, ⟨by rw [ht]; exact hP, hB⟩⟩, hS.F ht⟩) hS.2.2 dM_read_23
  refine lv_aload_n hx hb dM_read_0 rfl (lv_at hl 0 rfl) ?_
  refine lv_iload_n hx hb dM_read_1 rfl (lv_at hl 1 rfl) ?_
  refine mcalli (rest := []) ⟨hx, hb, hml, hown, hts⟩ hC hP hB hS (c_m_mayUse l D q cA σ0 a1) (cwV 1 hts gM_69 rfl rfl rfl hdM_mayUse ⟨Nat.le_of_ble_eq_true rfl, Nat.le_of_ble_eq_true rfl⟩) (mrv_0 hC hP) rfl hl.1 rfl (Nat.le_of_ble_eq_true rfl) dM_read_2 (fun σ1 v2 H locs e1 hP hB hS => ?_)
  have z1 : zb v2 := e1.2
  have hE := hE.trans (bd2_e e1.1)
  refine lv_if_ne (tgt := 13) hx hb dM_read_5 rfl (fun h3 => ?_) (fun h3 => ?_)
  · have hE := hE.trans (if_neg h3)
    exact b13 _ _ _ _ a1 hE hl hP hB hS
  · have hE := hE.trans (if_pos h3)
    refine lv_aload_n hx hb dM_read_8 rfl (lv_at hl 0 rfl) ?_
    refine lv_iconst (v := 2) hx hb dM_read_9 (by decide) ?_
    refine mcallv (rest := []) ⟨hx, hb, hml, hown, hts⟩ hC hP hB hS (c_m_speak l D q cA σ1 2) (cwV 1 hts gM_72 rfl rfl rfl hdM_speak ⟨Nat.le_of_ble_eq_true rfl, Nat.le_of_ble_eq_true rfl⟩) (mrv_0 hC hP) rfl hl.1 rfl (Nat.le_of_ble_eq_true rfl) dM_read_10 (fun σ4 H locs e4 hP hB hS => ?_)
    have hE := hE.trans (bd_e e4)
    exact b13 _ _ _ _ a1 hE hl hP hB hS
set_option maxRecDepth 100000 in
set_option maxHeartbeats 4000000 in
theorem c_m_write (l : Launch) (D : va_G) (q : Nat → Nat) (cA : ClassId) (σ0 : St) (a1 : Int32) (a2 : Int32) : Met l yM_write wsM_write { frames := 2, cells := 0, slots := 0, locals := 46 } (va_Pc [.ref (q 0), .int a1, .int a2] (MPre D q cA σ0)) (va_Qv (fun u => u = m_write σ0 a1 a2) (MPost D q cA) (MA q)) 0 0 (MA q) := by
  refine Met.ofW (cc := cM_write) (maxL := 3) (ret := none) (by decide) rfl ?_
  intro p e s m args below meth c s₁ B hml hv
  obtain ⟨rfl, hP, hB, hC⟩ := hv
  have hx := B.exec
  have hb := B.bytes
  have hr := B.returns
  have hts : ∀ w ∈ gw, w.before ([.ref (q 0), .int a1, .int a2] : List Value).toArray s = true := fun w h => atoms_spec (ws := wsM_write) B.pre w (List.mem_cons_of_mem _ h)
  have hown : s.vm.findClass RM = some m.cls := findClass_of_methodNamed B.named
  have hlocks := B.notSynchronized
  have hS : va_S (MA q) s.heap s.heap [] := va_S.rf
  have hl := lv_entry ([.ref (q 0), .int a1, .int a2]) (n := 3) (Nat.le_of_ble_eq_true rfl)
  rw [lg_entry_eq]
  generalize (lg_sl ([.ref (q 0), .int a1, .int a2]) ++ List.replicate (3 - (lg_sl ([.ref (q 0), .int a1, .int a2])).length) Slot.unset).toArray = ls at hl ⊢
  have hl : lv_has ls 3 [(0, .ref (q 0)), (1, .int a1), (2, .int a2)] := hl
  have hE : m_write σ0 a1 a2 = m_write σ0 a1 a2 := rfl
  have b38 : ∀ (H : Heap) (locs : List Loc) (ls : Array Slot) (σ : St), m_write σ0 a1 a2 = m_write_38 σ → lv_has ls 3 [] → va_P D vwCl (wsM q cA σ) H → MB σ → va_S (MA q) s.heap H locs → W p l e (headSpec wsM_write { frames := 2, cells := 0, slots := 0, locals := 46 }).room s m ([.ref (q 0), .int a1, .int a2] : List Value).toArray below meth c H locs 0 0 (MQ below (va_Qv (fun u => u = m_write σ0 a1 a2) (MPost D q cA) (MA q)) ([.ref (q 0), .int a1, .int a2] : List Value).toArray s 0 0 (MA q)) (F0 m 38 ls []) := by
    intro H locs ls σ hE hl hP hB hS
    exact W.vret hx hb hr (fun t ht hW => ⟨⟨σ, rfl, hE.symm, ⟨by rw [ht]; exact hP, hB⟩⟩, hS.F ht⟩) hS.2.2 dM_write_38
  refine lv_aload_n hx hb dM_write_0 rfl (lv_at hl 0 rfl) ?_
  refine mget_0_14 hx hb hts inM hown hC hP (hts _ wM_f58) dM_write_1 ?_
  refine lv_if_eq (tgt := 8) hx hb dM_write_4 rfl (fun h1 => ?_) (fun h1 => ?_)
  · have hE := hE.trans (if_pos h1)
    refine lv_aload_n hx hb dM_write_8 rfl (lv_at hl 0 rfl) ?_
    refine lv_iload_n hx hb dM_write_9 rfl (lv_at hl 1 rfl) ?_
    refine mcalli (rest := []) ⟨hx, hb, hml, hown, hts⟩ hC hP hB hS (c_m_mayUse l D q cA σ0 a1) (cwV 1 hts gM_69 rfl rfl rfl hdM_mayUse ⟨Nat.le_of_ble_eq_true rfl, Nat.le_of_ble_eq_true rfl⟩) (mrv_0 hC hP) rfl hl.1 rfl (Nat.le_of_ble_eq_true rfl) dM_write_10 (fun σ2 v3 H locs e2 hP hB hS => ?_)
    have z2 : zb v3 := e2.2
    have hE := hE.trans (bd2_e e2.1)
    refine lv_if_eq (tgt := 33) hx hb dM_write_13 rfl (fun h4 => ?_) (fun h4 => ?_)
    · have hE := hE.trans (if_pos h4)
      refine lv_aload_n hx hb dM_write_33 rfl (lv_at hl 0 rfl) ?_
      refine lv_iconst (v := 2) hx hb dM_write_34 (by decide) ?_
      refine mcallv (rest := []) ⟨hx, hb, hml, hown, hts⟩ hC hP hB hS (c_m_speak l D q cA σ2 2) (cwV 1 hts gM_72 rfl rfl rfl hdM_speak ⟨Nat.le_of_ble_eq_true rfl, Nat.le_of_ble_eq_true rfl⟩) (mrv_0 hC hP) rfl hl.1 rfl (Nat.le_of_ble_eq_true rfl) dM_write_35 (fun σ5 H locs e5 hP hB hS => ?_)
      have hE := hE.trans (bd_e e5)
      have hl := lv_sub hl [] rfl
      exact b38 _ _ _ _ hE hl hP hB hS
    · have hE := hE.trans (if_neg h4)
      refine lv_aload_n hx hb dM_write_16 rfl (lv_at hl 0 rfl) ?_
      refine mget_0_0 hx hb hts inM hown hC hP (hts _ wM_f7) dM_write_17 ?_
      refine lv_iload_n hx hb dM_write_20 rfl (lv_at hl 1 rfl) ?_
      refine lv_sipush (v := 255) hx hb dM_write_21 (by decide) ?_
      refine lv_iand hx hb dM_write_24 ?_
      refine lv_iload_n hx hb dM_write_25 rfl (lv_at hl 2 rfl) ?_
      refine lv_ldc (v := 65535) hx hb hown (hts _ wM_c32) dM_write_26 ?_
      refine lv_iand hx hb dM_write_28 ?_
      refine mast_1 hx hb hC hP hS (vin_m 8 (by decide) (by decide) (by decide)) dM_write_29 (fun σ6 H locs e6 hP hS => ?_)
      have hE := hE.trans (bd_e e6)
      have hB : MB σ6 := by rw [e6]; exact hB
      refine lv_goto (tgt := 38) hx hb dM_write_30 rfl ?_
      have hl := lv_sub hl [] rfl
      exact b38 _ _ _ _ hE hl hP hB hS
  · have hE := hE.trans (if_neg h1)
    exact W.vret hx hb hr (fun t ht hW => ⟨⟨σ0, rfl, hE.symm, ⟨by rw [ht]; exact hP, hB⟩⟩, hS.F ht⟩) hS.2.2 dM_write_7
set_option maxRecDepth 100000 in
set_option maxHeartbeats 4000000 in
theorem c_m_stack (l : Launch) (D : va_G) (q : Nat → Nat) (cA : ClassId) (σ0 : St) : Met l yM_stack wsM_stack { frames := 1, cells := 0, slots := 0, locals := 20 } (va_Pc [.ref (q 0)] (MPre D q cA σ0)) (va_Qi (fun r u => (u, r) = m_stack σ0 ∧ vp_in r 12) (MPost D q cA) (MA q)) 0 0 (MA q) := by
  refine Met.ofW (cc := cM_stack) (maxL := 1) (ret := (some .int)) (by decide) rfl ?_
  intro p e s m args below meth c s₁ B hml hv
  obtain ⟨rfl, hP, hB, hC⟩ := hv
  have hx := B.exec
  have hb := B.bytes
  have hr := B.returns
  have hts : ∀ w ∈ gw, w.before ([.ref (q 0)] : List Value).toArray s = true := fun w h => atoms_spec (ws := wsM_stack) B.pre w (List.mem_cons_of_mem _ h)
  have hown : s.vm.findClass RM = some m.cls := findClass_of_methodNamed B.named
  have hlocks := B.notSynchronized
  have hS : va_S (MA q) s.heap s.heap [] := va_S.rf
  have hl := lv_entry ([.ref (q 0)]) (n := 1) (Nat.le_of_ble_eq_true rfl)
  rw [lg_entry_eq]
  generalize (lg_sl ([.ref (q 0)]) ++ List.replicate (1 - (lg_sl ([.ref (q 0)])).length) Slot.unset).toArray = ls at hl ⊢
  have hl : lv_has ls 1 [(0, .ref (q 0))] := hl
  have hE : m_stack σ0 = m_stack σ0 := rfl
  have b14 : ∀ (H : Heap) (locs : List Loc) (ls : Array Slot) (σ : St) (y0 : Int32), vp_in y0 12 → m_stack σ0 = m_stack_14 σ y0 → lv_has ls 1 [] → va_P D vwCl (wsM q cA σ) H → MB σ → va_S (MA q) s.heap H locs → W p l e (headSpec wsM_stack { frames := 1, cells := 0, slots := 0, locals := 20 }).room s m ([.ref (q 0)] : List Value).toArray below meth c H locs 0 0 (MQ below (va_Qi (fun r u => (u, r) = m_stack σ0 ∧ vp_in r 12) (MPost D q cA) (MA q)) ([.ref (q 0)] : List Value).toArray s 0 0 (MA q)) (F0 m 14 ls [.int y0]) := by
    intro H locs ls σ y0 hin12_y0 hE hl hP hB hS
    exact W.iret (v := y0) hx hb hr (fun t ht hW => ⟨⟨y0, σ, rfl, ⟨hE.symm, hin12_y0⟩, ⟨by rw [ht]; exact hP, hB⟩⟩, hS.F ht⟩) hS.2.2 dM_stack_14
  refine lv_aload_n hx hb dM_stack_0 rfl (lv_at hl 0 rfl) ?_
  refine mcalli (rest := []) ⟨hx, hb, hml, hown, hts⟩ hC hP hB hS (c_m_isOpenWorld l D q cA σ0) (cwV 0 hts gM_61 rfl rfl rfl hdM_isOpenWorld ⟨Nat.le_of_ble_eq_true rfl, Nat.le_of_ble_eq_true rfl⟩) (mrv_0 hC hP) rfl hl.1 rfl (Nat.le_of_ble_eq_true rfl) dM_stack_1 (fun σ1 v2 H locs e1 hP hB hS => ?_)
  have z1 : zb v2 := e1.2
  have hE := hE.trans (bd2_e e1.1)
  refine lv_if_eq (tgt := 12) hx hb dM_stack_4 rfl (fun h3 => ?_) (fun h3 => ?_)
  · have hE := hE.trans (if_pos h3)
    refine lv_bipush (v := 8) hx hb dM_stack_12 (by decide) ?_
    have hl := lv_sub hl [] rfl
    exact b14 _ _ _ _ 8 (vin_c (by decide)) hE hl hP hB hS
  · have hE := hE.trans (if_neg h3)
    refine lv_bipush (v := 9) hx hb dM_stack_7 (by decide) ?_
    refine lv_goto (tgt := 14) hx hb dM_stack_9 rfl ?_
    have hl := lv_sub hl [] rfl
    exact b14 _ _ _ _ 9 (vin_c (by decide)) hE hl hP hB hS
set_option maxRecDepth 100000 in
set_option maxHeartbeats 4000000 in
theorem c_m_push (l : Launch) (D : va_G) (q : Nat → Nat) (cA : ClassId) (σ0 : St) (a1 : Int32) : Met l yM_push wsM_push { frames := 3, cells := 0, slots := 0, locals := 68 } (va_Pc [.ref (q 0), .int a1] (MPre D q cA σ0)) (va_Qv (fun u => u = m_push σ0 a1) (MPost D q cA) (MA q)) 0 0 (MA q) := by
  refine Met.ofW (cc := cM_push) (maxL := 3) (ret := none) (by decide) rfl ?_
  intro p e s m args below meth c s₁ B hml hv
  obtain ⟨rfl, hP, hB, hC⟩ := hv
  have hx := B.exec
  have hb := B.bytes
  have hr := B.returns
  have hts : ∀ w ∈ gw, w.before ([.ref (q 0), .int a1] : List Value).toArray s = true := fun w h => atoms_spec (ws := wsM_push) B.pre w (List.mem_cons_of_mem _ h)
  have hown : s.vm.findClass RM = some m.cls := findClass_of_methodNamed B.named
  have hlocks := B.notSynchronized
  have hS : va_S (MA q) s.heap s.heap [] := va_S.rf
  have hl := lv_entry ([.ref (q 0), .int a1]) (n := 3) (Nat.le_of_ble_eq_true rfl)
  rw [lg_entry_eq]
  generalize (lg_sl ([.ref (q 0), .int a1]) ++ List.replicate (3 - (lg_sl ([.ref (q 0), .int a1])).length) Slot.unset).toArray = ls at hl ⊢
  have hl : lv_has ls 3 [(0, .ref (q 0)), (1, .int a1)] := hl
  have hE : m_push σ0 a1 = m_push σ0 a1 := rfl
  refine lv_aload_n hx hb dM_push_0 rfl (lv_at hl 0 rfl) ?_
  refine mcalli (rest := []) ⟨hx, hb, hml, hown, hts⟩ hC hP hB hS (c_m_stack l D q cA σ0) (cwV 0 hts gM_76 rfl rfl rfl hdM_stack ⟨Nat.le_of_ble_eq_true rfl, Nat.le_of_ble_eq_true rfl⟩) (mrv_0 hC hP) rfl hl.1 rfl (Nat.le_of_ble_eq_true rfl) dM_push_1 (fun σ1 v2 H locs e1 hP hB hS => ?_)
  have z1 : vp_in v2 12 := e1.2
  have hE := hE.trans (bd2_e e1.1)
  refine lv_istore_n (lv' := [(2, .int v2), (0, .ref (q 0)), (1, .int a1)]) hx hb dM_push_4 rfl hl (by decide) rfl (fun ls hl => ?_)
  refine lv_aload_n hx hb dM_push_5 rfl (lv_at hl 1 rfl) ?_
  refine mget_0_8 hx hb hts inM hown hC hP (hts _ wM_f26) dM_push_6 ?_
  refine lv_iload_n hx hb dM_push_9 rfl (lv_at hl 0 rfl) ?_
  refine lv_aload_n hx hb dM_push_10 rfl (lv_at hl 1 rfl) ?_
  refine mget_0_8 hx hb hts inM hown hC hP (hts _ wM_f26) dM_push_11 ?_
  refine lv_iload_n hx hb dM_push_14 rfl (lv_at hl 0 rfl) ?_
  refine mald_5 hx hb hC hP z1 dM_push_15 ?_
  refine lv_iconst (v := 1) hx hb dM_push_16 (by decide) ?_
  refine lv_isub hx hb dM_push_17 ?_
  refine lv_ldc (v := 65535) hx hb hown (hts _ wM_c32) dM_push_18 ?_
  refine lv_iand hx hb dM_push_20 ?_
  refine mast_5 hx hb hC hP hS z1 dM_push_21 (fun σ3 H locs e3 hP hS => ?_)
  have hE := hE.trans (bd_e e3)
  have hB : MB σ3 := by rw [e3]; exact hB
  refine lv_aload_n hx hb dM_push_22 rfl (lv_at hl 1 rfl) ?_
  refine lv_aload_n hx hb dM_push_23 rfl (lv_at hl 1 rfl) ?_
  refine mget_0_8 hx hb hts inM hown hC hP (hts _ wM_f26) dM_push_24 ?_
  refine lv_iload_n hx hb dM_push_27 rfl (lv_at hl 0 rfl) ?_
  refine mald_5 hx hb hC hP z1 dM_push_28 ?_
  refine lv_iload_n hx hb dM_push_29 rfl (lv_at hl 2 rfl) ?_
  refine mcallv (rest := []) ⟨hx, hb, hml, hown, hts⟩ hC hP hB hS (c_m_write l D q cA σ3 (σ3 5 (ix v2)) a1) (cwV 2 hts gM_80 rfl rfl rfl hdM_write ⟨Nat.le_of_ble_eq_true rfl, Nat.le_of_ble_eq_true rfl⟩) (mrv_0 hC hP) rfl hl.1 rfl (Nat.le_of_ble_eq_true rfl) dM_push_30 (fun σ4 H locs e4 hP hB hS => ?_)
  have hE := hE.trans (bd_e e4)
  exact W.vret hx hb hr (fun t ht hW => ⟨⟨σ4, rfl, hE.symm, ⟨by rw [ht]; exact hP, hB⟩⟩, hS.F ht⟩) hS.2.2 dM_push_33
