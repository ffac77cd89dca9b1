theorem ca_eq {D : va_G} {cl : List vw_C} {tys : List (ClassId × FieldType)} {s : State} {a b : ClassId} (h : va_K D cl tys s) (i j : Nat) (hi : tys[i]? = some (a, .int)) (hj : tys[j]? = some (b, .int)) : a = b := by
  have h1 : s.vm.findClass ("[" ++ FieldType.int.toString) = some a := (h.2 i _ hi).2
  have h2 : s.vm.findClass ("[" ++ FieldType.int.toString) = some b := (h.2 j _ hj).2
  exact Option.some.inj (h1.symm.trans h2)
def kI0 : St := fun c => if c = 0 then upd (fun _ => 0) 7 1 else if c = 6 then upd (upd (fun _ => 0) 1 256) 2 256 else if c = 7 then upd (upd (fun _ => 0) 1 256) 2 256 else fun _ => 0
def mI0 : St := fun c => if c = 0 then upd (fun _ => 0) 4 1 else if c = 5 then upd (upd (fun _ => 0) (ix 8) 256) (ix 9) 256 else fun _ => 0
set_option maxRecDepth 100000 in
set_option maxHeartbeats 4000000 in
theorem c_R_init (l : Launch) (D : va_G) (h0 sz : Nat) : Met l yQ_init wsQ_init { frames := 1, cells := 1, slots := 8, locals := 12 } (va_Pc [.ref h0] (fun U => U.heap.size = sz ∧ va_P D vwCl [(h0, .inr (1, [.null, .int 0, .int 0, .int 0, .int 0, .int 0, .int 0]))] U.heap ∧ va_K D vwCl [] U ∧ va_D (fun _ => True) [(h0, .inr (1, [.null, .int 0, .int 0, .int 0, .int 0, .int 0, .int 0]))])) (va_Qv (fun _ : Nat × ClassId => True) (fun u t => va_P D vwCl [(h0, .inr (1, [.ref u.1, .int 256, .int 256, .int 0, .int 0, .int 0, .int 0])), (u.1, .inl (u.2, 8, .inl (fun _ => 0)))] t.heap ∧ va_K D vwCl [(u.2, .int)] t ∧ va_D (va_A [(h0, .inr (1, [.null, .int 0, .int 0, .int 0, .int 0, .int 0, .int 0]))] sz) [(h0, .inr (1, [.ref u.1, .int 256, .int 256, .int 0, .int 0, .int 0, .int 0])), (u.1, .inl (u.2, 8, .inl (fun _ => 0)))]) (va_A [(h0, .inr (1, [.null, .int 0, .int 0, .int 0, .int 0, .int 0, .int 0]))] sz)) 1 8 (va_A [(h0, .inr (1, [.null, .int 0, .int 0, .int 0, .int 0, .int 0, .int 0]))] sz) := by
  refine Met.ofW (cc := cQ_init) (maxL := 1) (ret := none) (by decide) rfl ?_
  intro p e s m args below meth c s₁ B hml hv
  obtain ⟨rfl, hsz, hP, hK, hD0⟩ := hv
  have hx := B.exec
  have hb := B.bytes
  have hr := B.returns
  have hts : ∀ w ∈ gw, w.before ([.ref h0] : List Value).toArray s = true := fun w h => atoms_spec (ws := wsQ_init) B.pre w (List.mem_cons_of_mem _ h)
  have hown : s.vm.findClass RQ = some m.cls := findClass_of_methodNamed B.named
  have hlocks := B.notSynchronized
  have hin : meth.name = "<init>" := (name_of_methodNamed B.named B.method).1
  subst hsz
  have hD := hD0.self (sz := s.heap.size)
  generalize hAe : va_A [(h0, .inr (1, [.null, .int 0, .int 0, .int 0, .int 0, .int 0, .int 0]))] s.heap.size = A at hD ⊢
  have hA : ∀ q : Nat, s.heap.size ≤ q → A q := fun q h => by rw [← hAe]; exact Or.inr h
  have hS : va_S A s.heap s.heap [] := va_S.rf
  have hP : va_P D vwCl [(h0, .inr (1, [.null, .int 0, .int 0, .int 0, .int 0, .int 0, .int 0]))] s.heap := hP
  have hl := lv_entry ([.ref h0]) (n := 1) (Nat.le_of_ble_eq_true rfl)
  rw [lg_entry_eq]
  generalize (lg_sl ([.ref h0]) ++ List.replicate (1 - (lg_sl ([.ref h0])).length) Slot.unset).toArray = ls at hl ⊢
  have hl : lv_has ls 1 [(0, .ref h0)] := hl
  refine lv_aload_n hx hb dQ_init_0 rfl (lv_at hl 0 rfl) ?_
  refine W.objInit hx hb hown (hts _ wQ_m3) (hts _ w_oi) (hts _ w_oc) rfl (by rw [hml]; exact hl.1) rfl dQ_init_1 (Nat.le_of_ble_eq_true rfl) (Nat.le_of_ble_eq_true rfl) ?_
  refine W.eq (g2 := F0 m 4 ls []) rfl ?_
  refine lv_aload_n hx hb dQ_init_4 rfl (lv_at hl 0 rfl) ?_
  refine lv_bipush (v := 8) hx hb dQ_init_5 (by decide) ?_
  refine va_newa (atype := .int) (ty := .int) (N' := 8) (a0 := (8, .inl (fun _ => 0))) hx hb (hts _ w_ai) rfl hK hP hD hS hA (fun _ => rfl) (by decide) (by decide) (by decide) (show 0 + 1 ≤ 1 by decide) (show 0 + 8 ≤ 8 by decide) dQ_init_7 (fun q7 cA7 H hK hP hD hS => ?_)
  have hP : va_P D vwCl [(h0, .inr (1, [.null, .int 0, .int 0, .int 0, .int 0, .int 0, .int 0])), (q7, .inl (cA7, 8, .inl (fun _ => 0)))] H := hP
  have hD : va_D A [(h0, .inr (1, [.null, .int 0, .int 0, .int 0, .int 0, .int 0, .int 0])), (q7, .inl (cA7, 8, .inl (fun _ => 0)))] := hD
  have hK : va_K D vwCl [(cA7, .int)] s := hK
  refine va_putF (D := D) (ci := 1) (v := .ref q7) (ty := (.array .int)) (C := RQ) (T := TQ) (N := 7) hx hb hts inQ tyQ tyQ_ok nmQ hown hK hP hD hS 0 rfl rfl 0 (by decide) (hts _ wQ_f9) (fun _ h9 => h9) rfl hin rfl (by decide +kernel) rfl rfl (Nat.le_of_ble_eq_true rfl) dQ_init_9 (fun H locs hP hD hS => ?_)
  have hP : va_P D vwCl [(h0, .inr (1, [.ref q7, .int 0, .int 0, .int 0, .int 0, .int 0, .int 0])), (q7, .inl (cA7, 8, .inl (fun _ => 0)))] H := hP
  have hD : va_D A [(h0, .inr (1, [.ref q7, .int 0, .int 0, .int 0, .int 0, .int 0, .int 0])), (q7, .inl (cA7, 8, .inl (fun _ => 0)))] := hD
  refine lv_aload_n hx hb dQ_init_12 rfl (lv_at hl 0 rfl) ?_
  refine lv_sipush (v := 256) hx hb dQ_init_13 (by decide) ?_
  refine va_put (D := D) (ci := 1) (v := .int 256) (ty := .int) (C := RQ) (T := TQ) (N := 7) hx hb hts inQ tyQ tyQ_ok nmQ hown hK hP hD hS 0 rfl rfl 1 (by decide) (hts _ wQ_f15) (fun _ h9 => h9) rfl (by decide +kernel) rfl rfl (Nat.le_of_ble_eq_true rfl) dQ_init_16 (fun H locs hP hD hS => ?_)
  have hP : va_P D vwCl [(h0, .inr (1, [.ref q7, .int 256, .int 0, .int 0, .int 0, .int 0, .int 0])), (q7, .inl (cA7, 8, .inl (fun _ => 0)))] H := hP
  have hD : va_D A [(h0, .inr (1, [.ref q7, .int 256, .int 0, .int 0, .int 0, .int 0, .int 0])), (q7, .inl (cA7, 8, .inl (fun _ => 0)))] := hD
  refine lv_aload_n hx hb dQ_init_19 rfl (lv_at hl 0 rfl) ?_
  refine lv_sipush (v := 256) hx hb dQ_init_20 (by decide) ?_
  refine va_put (D := D) (ci := 1) (v := .int 256) (ty := .int) (C := RQ) (T := TQ) (N := 7) hx hb hts inQ tyQ tyQ_ok nmQ hown hK hP hD hS 0 rfl rfl 2 (by decide) (hts _ wQ_f19) (fun _ h9 => h9) rfl (by decide +kernel) rfl rfl (Nat.le_of_ble_eq_true rfl) dQ_init_23 (fun H locs hP hD hS => ?_)
  have hP : va_P D vwCl [(h0, .inr (1, [.ref q7, .int 256, .int 256, .int 0, .int 0, .int 0, .int 0])), (q7, .inl (cA7, 8, .inl (fun _ => 0)))] H := hP
  have hD : va_D A [(h0, .inr (1, [.ref q7, .int 256, .int 256, .int 0, .int 0, .int 0, .int 0])), (q7, .inl (cA7, 8, .inl (fun _ => 0)))] := hD
  exact W.vret hx hb hr (fun t ht hW => ⟨⟨(q7, cA7), rfl, trivial, by rw [ht]; exact hP, va_K.moved hW.alike hK, hD⟩, hS.F ht⟩) hS.2.2 dQ_init_26
set_option maxRecDepth 100000 in
set_option maxHeartbeats 4000000 in
theorem c_K_init (l : Launch) (D : va_G) (h0 sz : Nat) : Met l yK_init wsK_init { frames := 2, cells := 9, slots := 554, locals := 40 } (va_Pc [.ref h0] (fun U => U.heap.size = sz ∧ va_P D vwCl [(h0, .inr (0, [.null, .null, .null, .null, .null, .null, .null, .int 0, .int 0, .int 0, .int 0, .int 0, .int 0, .int 0, .int 0]))] U.heap ∧ va_K D vwCl [] U ∧ va_D (fun _ => True) [(h0, .inr (0, [.null, .null, .null, .null, .null, .null, .null, .int 0, .int 0, .int 0, .int 0, .int 0, .int 0, .int 0, .int 0]))])) (va_Qv (fun u : (Nat → Nat) × ClassId => u.1 0 = h0) (fun u t => va_P D vwCl (wsK u.1 u.2 kI0) t.heap ∧ va_K D vwCl [(u.2, .int)] t ∧ va_D (va_A [(h0, .inr (0, [.null, .null, .null, .null, .null, .null, .null, .int 0, .int 0, .int 0, .int 0, .int 0, .int 0, .int 0, .int 0]))] sz) (wsK u.1 u.2 kI0)) (va_A [(h0, .inr (0, [.null, .null, .null, .null, .null, .null, .null, .int 0, .int 0, .int 0, .int 0, .int 0, .int 0, .int 0, .int 0]))] sz)) 9 554 (va_A [(h0, .inr (0, [.null, .null, .null, .null, .null, .null, .null, .int 0, .int 0, .int 0, .int 0, .int 0, .int 0, .int 0, .int 0]))] sz) := by
  refine Met.ofW (cc := cK_init) (maxL := 1) (ret := none) (by decide) rfl ?_
  intro p e s m args below meth c s₁ B hml hv
  obtain ⟨rfl, hsz, hP, hK, hD0⟩ := hv
  have hx := B.exec
  have hb := B.bytes
  have hr := B.returns
  have hts : ∀ w ∈ gw, w.before ([.ref h0] : List Value).toArray s = true := fun w h => atoms_spec (ws := wsK_init) B.pre w (List.mem_cons_of_mem _ h)
  have hown : s.vm.findClass RK = some m.cls := findClass_of_methodNamed B.named
  have hlocks := B.notSynchronized
  have hin : meth.name = "<init>" := (name_of_methodNamed B.named B.method).1
  subst hsz
  have hD := hD0.self (sz := s.heap.size)
  generalize hAe : va_A [(h0, .inr (0, [.null, .null, .null, .null, .null, .null, .null, .int 0, .int 0, .int 0, .int 0, .int 0, .int 0, .int 0, .int 0]))] s.heap.size = A at hD ⊢
  have hA : ∀ q : Nat, s.heap.size ≤ q → A q := fun q h => by rw [← hAe]; exact Or.inr h
  have hS : va_S A s.heap s.heap [] := va_S.rf
  have hP : va_P D vwCl [(h0, .inr (0, [.null, .null, .null, .null, .null, .null, .null, .int 0, .int 0, .int 0, .int 0, .int 0, .int 0, .int 0, .int 0]))] s.heap := hP
  have hl := lv_entry ([.ref h0]) (n := 1) (Nat.le_of_ble_eq_true rfl)
  rw [lg_entry_eq]
  generalize (lg_sl ([.ref h0]) ++ List.replicate (1 - (lg_sl ([.ref h0])).length) Slot.unset).toArray = ls at hl ⊢
  have hl : lv_has ls 1 [(0, .ref h0)] := hl
  refine lv_aload_n hx hb dK_init_0 rfl (lv_at hl 0 rfl) ?_
  refine W.objInit hx hb hown (hts _ wK_m1) (hts _ w_oi) (hts _ w_oc) rfl (by rw [hml]; exact hl.1) rfl dK_init_1 (Nat.le_of_ble_eq_true rfl) (Nat.le_of_ble_eq_true rfl) ?_
  refine W.eq (g2 := F0 m 4 ls []) rfl ?_
  refine lv_aload_n hx hb dK_init_4 rfl (lv_at hl 0 rfl) ?_
  refine lv_sipush (v := 256) hx hb dK_init_5 (by decide) ?_
  refine va_newa (atype := .int) (ty := .int) (N' := 256) (a0 := (256, .inl (fun _ => 0))) hx hb (hts _ w_ai) rfl hK hP hD hS hA (fun _ => rfl) (by decide) (by decide) (by decide) (show 0 + 1 ≤ 9 by decide) (show 0 + 256 ≤ 554 by decide) dK_init_8 (fun q8 cA8 H hK hP hD hS => ?_)
  have hP : va_P D vwCl [(h0, .inr (0, [.null, .null, .null, .null, .null, .null, .null, .int 0, .int 0, .int 0, .int 0, .int 0, .int 0, .int 0, .int 0])), (q8, .inl (cA8, 256, .inl (fun _ => 0)))] H := hP
  have hD : va_D A [(h0, .inr (0, [.null, .null, .null, .null, .null, .null, .null, .int 0, .int 0, .int 0, .int 0, .int 0, .int 0, .int 0, .int 0])), (q8, .inl (cA8, 256, .inl (fun _ => 0)))] := hD
  have hK : va_K D vwCl [(cA8, .int)] s := hK
  refine va_putF (D := D) (ci := 0) (v := .ref q8) (ty := (.array .int)) (C := RK) (T := TK) (N := 15) hx hb hts inK tyK tyK_ok nmK hown hK hP hD hS 0 rfl rfl 0 (by decide) (hts _ wK_f9) (fun _ h9 => h9) rfl hin rfl (by decide +kernel) rfl rfl (Nat.le_of_ble_eq_true rfl) dK_init_10 (fun H locs hP hD hS => ?_)
  have hP : va_P D vwCl [(h0, .inr (0, [.ref q8, .null, .null, .null, .null, .null, .null, .int 0, .int 0, .int 0, .int 0, .int 0, .int 0, .int 0, .int 0])), (q8, .inl (cA8, 256, .inl (fun _ => 0)))] H := hP
  have hD : va_D A [(h0, .inr (0, [.ref q8, .null, .null, .null, .null, .null, .null, .int 0, .int 0, .int 0, .int 0, .int 0, .int 0, .int 0, .int 0])), (q8, .inl (cA8, 256, .inl (fun _ => 0)))] := hD
  refine lv_aload_n hx hb dK_init_13 rfl (lv_at hl 0 rfl) ?_
  refine lv_sipush (v := 256) hx hb dK_init_14 (by decide) ?_
  refine va_newa (atype := .int) (ty := .int) (N' := 256) (a0 := (256, .inl (fun _ => 0))) hx hb (hts _ w_ai) rfl hK hP hD hS hA (fun _ => rfl) (by decide) (by decide) (by decide) (show 1 + 1 ≤ 9 by decide) (show 256 + 256 ≤ 554 by decide) dK_init_17 (fun q17 cA17 H hK hP hD hS => ?_)
  have hP : va_P D vwCl [(h0, .inr (0, [.ref q8, .null, .null, .null, .null, .null, .null, .int 0, .int 0, .int 0, .int 0, .int 0, .int 0, .int 0, .int 0])), (q8, .inl (cA8, 256, .inl (fun _ => 0))), (q17, .inl (cA17, 256, .inl (fun _ => 0)))] H := hP
  have hD : va_D A [(h0, .inr (0, [.ref q8, .null, .null, .null, .null, .null, .null, .int 0, .int 0, .int 0, .int 0, .int 0, .int 0, .int 0, .int 0])), (q8, .inl (cA8, 256, .inl (fun _ => 0))), (q17, .inl (cA17, 256, .inl (fun _ => 0)))] := hD
  have hK : va_K D vwCl [(cA8, .int), (cA17, .int)] s := hK
  refine va_putF (D := D) (ci := 0) (v := .ref q17) (ty := (.array .int)) (C := RK) (T := TK) (N := 15) hx hb hts inK tyK tyK_ok nmK hown hK hP hD hS 0 rfl rfl 1 (by decide) (hts _ wK_f13) (fun _ h9 => h9) rfl hin rfl (by decide +kernel) rfl rfl (Nat.le_of_ble_eq_true rfl) dK_init_19 (fun H locs hP hD hS => ?_)
  have hP : va_P D vwCl [(h0, .inr (0, [.ref q8, .ref q17, .null, .null, .null, .null, .null, .int 0, .int 0, .int 0, .int 0, .int 0, .int 0, .int 0, .int 0])), (q8, .inl (cA8, 256, .inl (fun _ => 0))), (q17, .inl (cA17, 256, .inl (fun _ => 0)))] H := hP
  have hD : va_D A [(h0, .inr (0, [.ref q8, .ref q17, .null, .null, .null, .null, .null, .int 0, .int 0, .int 0, .int 0, .int 0, .int 0, .int 0, .int 0])), (q8, .inl (cA8, 256, .inl (fun _ => 0))), (q17, .inl (cA17, 256, .inl (fun _ => 0)))] := hD
  refine lv_aload_n hx hb dK_init_22 rfl (lv_at hl 0 rfl) ?_
  refine lv_iconst (v := 4) hx hb dK_init_23 (by decide) ?_
  refine va_newa (atype := .int) (ty := .int) (N' := 4) (a0 := (4, .inl (fun _ => 0))) hx hb (hts _ w_ai) rfl hK hP hD hS hA (fun _ => rfl) (by decide) (by decide) (by decide) (show 2 + 1 ≤ 9 by decide) (show 512 + 4 ≤ 554 by decide) dK_init_24 (fun q24 cA24 H hK hP hD hS => ?_)
  have hP : va_P D vwCl [(h0, .inr (0, [.ref q8, .ref q17, .null, .null, .null, .null, .null, .int 0, .int 0, .int 0, .int 0, .int 0, .int 0, .int 0, .int 0])), (q8, .inl (cA8, 256, .inl (fun _ => 0))), (q17, .inl (cA17, 256, .inl (fun _ => 0))), (q24, .inl (cA24, 4, .inl (fun _ => 0)))] H := hP
  have hD : va_D A [(h0, .inr (0, [.ref q8, .ref q17, .null, .null, .null, .null, .null, .int 0, .int 0, .int 0, .int 0, .int 0, .int 0, .int 0, .int 0])), (q8, .inl (cA8, 256, .inl (fun _ => 0))), (q17, .inl (cA17, 256, .inl (fun _ => 0))), (q24, .inl (cA24, 4, .inl (fun _ => 0)))] := hD
  have hK : va_K D vwCl [(cA8, .int), (cA17, .int), (cA24, .int)] s := hK
  refine va_putF (D := D) (ci := 0) (v := .ref q24) (ty := (.array .int)) (C := RK) (T := TK) (N := 15) hx hb hts inK tyK tyK_ok nmK hown hK hP hD hS 0 rfl rfl 2 (by decide) (hts _ wK_f16) (fun _ h9 => h9) rfl hin rfl (by decide +kernel) rfl rfl (Nat.le_of_ble_eq_true rfl) dK_init_26 (fun H locs hP hD hS => ?_)
  have hP : va_P D vwCl [(h0, .inr (0, [.ref q8, .ref q17, .ref q24, .null, .null, .null, .null, .int 0, .int 0, .int 0, .int 0, .int 0, .int 0, .int 0, .int 0])), (q8, .inl (cA8, 256, .inl (fun _ => 0))), (q17, .inl (cA17, 256, .inl (fun _ => 0))), (q24, .inl (cA24, 4, .inl (fun _ => 0)))] H := hP
  have hD : va_D A [(h0, .inr (0, [.ref q8, .ref q17, .ref q24, .null, .null, .null, .null, .int 0, .int 0, .int 0, .int 0, .int 0, .int 0, .int 0, .int 0])), (q8, .inl (cA8, 256, .inl (fun _ => 0))), (q17, .inl (cA17, 256, .inl (fun _ => 0))), (q24, .inl (cA24, 4, .inl (fun _ => 0)))] := hD
  refine lv_aload_n hx hb dK_init_29 rfl (lv_at hl 0 rfl) ?_
  refine lv_iconst (v := 4) hx hb dK_init_30 (by decide) ?_
  refine va_newa (atype := .int) (ty := .int) (N' := 4) (a0 := (4, .inl (fun _ => 0))) hx hb (hts _ w_ai) rfl hK hP hD hS hA (fun _ => rfl) (by decide) (by decide) (by decide) (show 3 + 1 ≤ 9 by decide) (show 516 + 4 ≤ 554 by decide) dK_init_31 (fun q31 cA31 H hK hP hD hS => ?_)
  have hP : va_P D vwCl [(h0, .inr (0, [.ref q8, .ref q17, .ref q24, .null, .null, .null, .null, .int 0, .int 0, .int 0, .int 0, .int 0, .int 0, .int 0, .int 0])), (q8, .inl (cA8, 256, .inl (fun _ => 0))), (q17, .inl (cA17, 256, .inl (fun _ => 0))), (q24, .inl (cA24, 4, .inl (fun _ => 0))), (q31, .inl (cA31, 4, .inl (fun _ => 0)))] H := hP
  have hD : va_D A [(h0, .inr (0, [.ref q8, .ref q17, .ref q24, .null, .null, .null, .null, .int 0, .int 0, .int 0, .int 0, .int 0, .int 0, .int 0, .int 0])), (q8, .inl (cA8, 256, .inl (fun _ => 0))), (q17, .inl (cA17, 256, .inl (fun _ => 0))), (q24, .inl (cA24, 4, .inl (fun _ => 0))), (q31, .inl (cA31, 4, .inl (fun _ => 0)))] := hD
  have hK : va_K D vwCl [(cA8, .int), (cA17, .int), (cA24, .int), (cA31, .int)] s := hK
  refine va_putF (D := D) (ci := 0) (v := .ref q31) (ty := (.array .int)) (C := RK) (T := TK) (N := 15) hx hb hts inK tyK tyK_ok nmK hown hK hP hD hS 0 rfl rfl 3 (by decide) (hts _ wK_f19) (fun _ h9 => h9) rfl hin rfl (by decide +kernel) rfl rfl (Nat.le_of_ble_eq_true rfl) dK_init_33 (fun H locs hP hD hS => ?_)
  have hP : va_P D vwCl [(h0, .inr (0, [.ref q8, .ref q17, .ref q24, .ref q31, .null, .null, .null, .int 0, .int 0, .int 0, .int 0, .int 0, .int 0, .int 0, .int 0])), (q8, .inl (cA8, 256, .inl (fun _ => 0))), (q17, .inl (cA17, 256, .inl (fun _ => 0))), (q24, .inl (cA24, 4, .inl (fun _ => 0))), (q31, .inl (cA31, 4, .inl (fun _ => 0)))] H := hP
  have hD : va_D A [(h0, .inr (0, [.ref q8, .ref q17, .ref q24, .ref q31, .null, .null, .null, .int 0, .int 0, .int 0, .int 0, .int 0, .int 0, .int 0, .int 0])), (q8, .inl (cA8, 256, .inl (fun _ => 0))), (q17, .inl (cA17, 256, .inl (fun _ => 0))), (q24, .inl (cA24, 4, .inl (fun _ => 0))), (q31, .inl (cA31, 4, .inl (fun _ => 0)))] := hD
  refine lv_aload_n hx hb dK_init_36 rfl (lv_at hl 0 rfl) ?_
  refine lv_iconst (v := 4) hx hb dK_init_37 (by decide) ?_
  refine va_newa (atype := .int) (ty := .int) (N' := 4) (a0 := (4, .inl (fun _ => 0))) hx hb (hts _ w_ai) rfl hK hP hD hS hA (fun _ => rfl) (by decide) (by decide) (by decide) (show 4 + 1 ≤ 9 by decide) (show 520 + 4 ≤ 554 by decide) dK_init_38 (fun q38 cA38 H hK hP hD hS => ?_)
  have hP : va_P D vwCl [(h0, .inr (0, [.ref q8, .ref q17, .ref q24, .ref q31, .null, .null, .null, .int 0, .int 0, .int 0, .int 0, .int 0, .int 0, .int 0, .int 0])), (q8, .inl (cA8, 256, .inl (fun _ => 0))), (q17, .inl (cA17, 256, .inl (fun _ => 0))), (q24, .inl (cA24, 4, .inl (fun _ => 0))), (q31, .inl (cA31, 4, .inl (fun _ => 0))), (q38, .inl (cA38, 4, .inl (fun _ => 0)))] H := hP
  have hD : va_D A [(h0, .inr (0, [.ref q8, .ref q17, .ref q24, .ref q31, .null, .null, .null, .int 0, .int 0, .int 0, .int 0, .int 0, .int 0, .int 0, .int 0])), (q8, .inl (cA8, 256, .inl (fun _ => 0))), (q17, .inl (cA17, 256, .inl (fun _ => 0))), (q24, .inl (cA24, 4, .inl (fun _ => 0))), (q31, .inl (cA31, 4, .inl (fun _ => 0))), (q38, .inl (cA38, 4, .inl (fun _ => 0)))] := hD
  have hK : va_K D vwCl [(cA8, .int), (cA17, .int), (cA24, .int), (cA31, .int), (cA38, .int)] s := hK
  refine va_putF (D := D) (ci := 0) (v := .ref q38) (ty := (.array .int)) (C := RK) (T := TK) (N := 15) hx hb hts inK tyK tyK_ok nmK hown hK hP hD hS 0 rfl rfl 4 (by decide) (hts _ wK_f22) (fun _ h9 => h9) rfl hin rfl (by decide +kernel) rfl rfl (Nat.le_of_ble_eq_true rfl) dK_init_40 (fun H locs hP hD hS => ?_)
  have hP : va_P D vwCl [(h0, .inr (0, [.ref q8, .ref q17, .ref q24, .ref q31, .ref q38, .null, .null, .int 0, .int 0, .int 0, .int 0, .int 0, .int 0, .int 0, .int 0])), (q8, .inl (cA8, 256, .inl (fun _ => 0))), (q17, .inl (cA17, 256, .inl (fun _ => 0))), (q24, .inl (cA24, 4, .inl (fun _ => 0))), (q31, .inl (cA31, 4, .inl (fun _ => 0))), (q38, .inl (cA38, 4, .inl (fun _ => 0)))] H := hP
  have hD : va_D A [(h0, .inr (0, [.ref q8, .ref q17, .ref q24, .ref q31, .ref q38, .null, .null, .int 0, .int 0, .int 0, .int 0, .int 0, .int 0, .int 0, .int 0])), (q8, .inl (cA8, 256, .inl (fun _ => 0))), (q17, .inl (cA17, 256, .inl (fun _ => 0))), (q24, .inl (cA24, 4, .inl (fun _ => 0))), (q31, .inl (cA31, 4, .inl (fun _ => 0))), (q38, .inl (cA38, 4, .inl (fun _ => 0)))] := hD
  refine lv_aload_n hx hb dK_init_43 rfl (lv_at hl 0 rfl) ?_
  refine va_new (ci := 1) (fs := [.null, .int 0, .int 0, .int 0, .int 0, .int 0, .int 0]) (C := RQ) (T := TQ) (N := 7) hx hb hts inQ tyQ tyQ_ok hown (hts _ wK_k25) (hts _ w_inQ) (hts _ w_iiQ) hK hP hD hS hA rfl (fun j hj => by rcases (show j = 0 ∨ j = 1 ∨ j = 2 ∨ j = 3 ∨ j = 4 ∨ j = 5 ∨ j = 6 by omega) with rfl | rfl | rfl | rfl | rfl | rfl | rfl <;> rfl) (show 5 + 1 ≤ 9 by decide) (show 524 + 7 ≤ 554 by decide) dK_init_44 (fun q44 H hP hD hS => ?_)
  have hP : va_P D vwCl [(h0, .inr (0, [.ref q8, .ref q17, .ref q24, .ref q31, .ref q38, .null, .null, .int 0, .int 0, .int 0, .int 0, .int 0, .int 0, .int 0, .int 0])), (q8, .inl (cA8, 256, .inl (fun _ => 0))), (q17, .inl (cA17, 256, .inl (fun _ => 0))), (q24, .inl (cA24, 4, .inl (fun _ => 0))), (q31, .inl (cA31, 4, .inl (fun _ => 0))), (q38, .inl (cA38, 4, .inl (fun _ => 0))), (q44, .inr (1, [.null, .int 0, .int 0, .int 0, .int 0, .int 0, .int 0]))] H := hP
  have hD : va_D A [(h0, .inr (0, [.ref q8, .ref q17, .ref q24, .ref q31, .ref q38, .null, .null, .int 0, .int 0, .int 0, .int 0, .int 0, .int 0, .int 0, .int 0])), (q8, .inl (cA8, 256, .inl (fun _ => 0))), (q17, .inl (cA17, 256, .inl (fun _ => 0))), (q24, .inl (cA24, 4, .inl (fun _ => 0))), (q31, .inl (cA31, 4, .inl (fun _ => 0))), (q38, .inl (cA38, 4, .inl (fun _ => 0))), (q44, .inr (1, [.null, .int 0, .int 0, .int 0, .int 0, .int 0, .int 0]))] := hD
  refine lv_dup hx hb dK_init_47 rfl ?_
  have hPc := hP.sub (ws' := [(q44, .inr (1, [.null, .int 0, .int 0, .int 0, .int 0, .int 0, .int 0]))]) [6] rfl
  have hDc := hD.sub (ws' := [(q44, .inr (1, [.null, .int 0, .int 0, .int 0, .int 0, .int 0, .int 0]))]) [6] (by decide) rfl
  have hKc := hK.sub (tys' := []) [] rfl
  have hFc := va_free (wc := [(q44, .inr (1, [.null, .int 0, .int 0, .int 0, .int 0, .int 0, .int 0]))]) hD hS hA [6] rfl
  refine va_callv (va_runI (As := []) (rest := [.ref q44, .ref h0]) ⟨hx, hb, hml, hown, hts⟩ (c_R_init l D q44 H.size) (cwI 0 hts (nm_c w_cdQ) rfl rfl rfl (hts _ w_iiQ) (hts _ wK_m27) (hts _ w_imQ) rfl (by decide +kernel) ⟨Nat.le_of_ble_eq_true rfl, Nat.le_of_ble_eq_true rfl⟩) ⟨fun a U g mk q => by obtain ⟨q0, q1, qP, qK, qD⟩ := q; exact ⟨q0, q1, qP, va_K.moved (u := U) (U := U.calling g mk a) (Vm.Alike.refl U.vm) qK, qD⟩, fun U hU hW => ⟨rfl, by rw [hU], by rw [hU]; exact hPc, va_K.moved hW.alike hKc, hDc.weaken (fun _ _ _ _ => trivial)⟩⟩ rfl rfl hl.1 rfl (lv_room (Nat.le_of_ble_eq_true rfl)) dK_init_48 ⟨show 6 + 1 ≤ 9 by decide, show 531 + 8 ≤ 554 by decide⟩) hS (fun q _ h => hFc q h) hFc (fun u t H1 locs ht hvm hw hB hz1 hk1 hS => ?_)
  obtain ⟨r48, cA48⟩ := u
  obtain ⟨hP1, hK1, hD1⟩ := hB
  rw [ht] at hP1
  have hK1 := va_K.moved hvm.symm hK1
  obtain ⟨hP, hD⟩ := va_join (wr := [(h0, .inr (0, [.ref q8, .ref q17, .ref q24, .ref q31, .ref q38, .null, .null, .int 0, .int 0, .int 0, .int 0, .int 0, .int 0, .int 0, .int 0])), (q8, .inl (cA8, 256, .inl (fun _ => 0))), (q17, .inl (cA17, 256, .inl (fun _ => 0))), (q24, .inl (cA24, 4, .inl (fun _ => 0))), (q31, .inl (cA31, 4, .inl (fun _ => 0))), (q38, .inl (cA38, 4, .inl (fun _ => 0)))]) (w1 := [(q44, .inr (1, [.ref r48, .int 256, .int 256, .int 0, .int 0, .int 0, .int 0])), (r48, .inl (cA48, 8, .inl (fun _ => 0)))]) hP hD [6] [0, 1, 2, 3, 4, 5] rfl rfl (by decide) (by decide) hk1 hFc hP1 hD1
  have hK := (hK.sub (tys' := [(cA8, .int), (cA17, .int), (cA24, .int), (cA31, .int), (cA38, .int)]) [0, 1, 2, 3, 4] rfl).app hK1
  generalize H1 = H at hP hS ⊢
  have hP : va_P D vwCl [(h0, .inr (0, [.ref q8, .ref q17, .ref q24, .ref q31, .ref q38, .null, .null, .int 0, .int 0, .int 0, .int 0, .int 0, .int 0, .int 0, .int 0])), (q8, .inl (cA8, 256, .inl (fun _ => 0))), (q17, .inl (cA17, 256, .inl (fun _ => 0))), (q24, .inl (cA24, 4, .inl (fun _ => 0))), (q31, .inl (cA31, 4, .inl (fun _ => 0))), (q38, .inl (cA38, 4, .inl (fun _ => 0))), (q44, .inr (1, [.ref r48, .int 256, .int 256, .int 0, .int 0, .int 0, .int 0])), (r48, .inl (cA48, 8, .inl (fun _ => 0)))] H := hP
  have hD : va_D A [(h0, .inr (0, [.ref q8, .ref q17, .ref q24, .ref q31, .ref q38, .null, .null, .int 0, .int 0, .int 0, .int 0, .int 0, .int 0, .int 0, .int 0])), (q8, .inl (cA8, 256, .inl (fun _ => 0))), (q17, .inl (cA17, 256, .inl (fun _ => 0))), (q24, .inl (cA24, 4, .inl (fun _ => 0))), (q31, .inl (cA31, 4, .inl (fun _ => 0))), (q38, .inl (cA38, 4, .inl (fun _ => 0))), (q44, .inr (1, [.ref r48, .int 256, .int 256, .int 0, .int 0, .int 0, .int 0])), (r48, .inl (cA48, 8, .inl (fun _ => 0)))] := hD
  have hK : va_K D vwCl [(cA8, .int), (cA17, .int), (cA24, .int), (cA31, .int), (cA38, .int), (cA48, .int)] s := hK
  refine va_putF (D := D) (ci := 0) (v := .ref q44) (ty := (.object "TwoWorlds$Registers")) (C := RK) (T := TK) (N := 15) hx hb hts inK tyK tyK_ok nmK hown hK hP hD hS 0 rfl rfl 5 (by decide) (hts _ wK_f28) (fun _ h9 => h9) rfl hin rfl (by decide +kernel) rfl rfl (Nat.le_of_ble_eq_true rfl) dK_init_51 (fun H locs hP hD hS => ?_)
  have hP : va_P D vwCl [(h0, .inr (0, [.ref q8, .ref q17, .ref q24, .ref q31, .ref q38, .ref q44, .null, .int 0, .int 0, .int 0, .int 0, .int 0, .int 0, .int 0, .int 0])), (q8, .inl (cA8, 256, .inl (fun _ => 0))), (q17, .inl (cA17, 256, .inl (fun _ => 0))), (q24, .inl (cA24, 4, .inl (fun _ => 0))), (q31, .inl (cA31, 4, .inl (fun _ => 0))), (q38, .inl (cA38, 4, .inl (fun _ => 0))), (q44, .inr (1, [.ref r48, .int 256, .int 256, .int 0, .int 0, .int 0, .int 0])), (r48, .inl (cA48, 8, .inl (fun _ => 0)))] H := hP
  have hD : va_D A [(h0, .inr (0, [.ref q8, .ref q17, .ref q24, .ref q31, .ref q38, .ref q44, .null, .int 0, .int 0, .int 0, .int 0, .int 0, .int 0, .int 0, .int 0])), (q8, .inl (cA8, 256, .inl (fun _ => 0))), (q17, .inl (cA17, 256, .inl (fun _ => 0))), (q24, .inl (cA24, 4, .inl (fun _ => 0))), (q31, .inl (cA31, 4, .inl (fun _ => 0))), (q38, .inl (cA38, 4, .inl (fun _ => 0))), (q44, .inr (1, [.ref r48, .int 256, .int 256, .int 0, .int 0, .int 0, .int 0])), (r48, .inl (cA48, 8, .inl (fun _ => 0)))] := hD
  refine lv_aload_n hx hb dK_init_54 rfl (lv_at hl 0 rfl) ?_
  refine va_new (ci := 1) (fs := [.null, .int 0, .int 0, .int 0, .int 0, .int 0, .int 0]) (C := RQ) (T := TQ) (N := 7) hx hb hts inQ tyQ tyQ_ok hown (hts _ wK_k25) (hts _ w_inQ) (hts _ w_iiQ) hK hP hD hS hA rfl (fun j hj => by rcases (show j = 0 ∨ j = 1 ∨ j = 2 ∨ j = 3 ∨ j = 4 ∨ j = 5 ∨ j = 6 by omega) with rfl | rfl | rfl | rfl | rfl | rfl | rfl <;> rfl) (show 7 + 1 ≤ 9 by decide) (show 539 + 7 ≤ 554 by decide) dK_init_55 (fun q55 H hP hD hS => ?_)
  have hP : va_P D vwCl [(h0, .inr (0, [.ref q8, .ref q17, .ref q24, .ref q31, .ref q38, .ref q44, .null, .int 0, .int 0, .int 0, .int 0, .int 0, .int 0, .int 0, .int 0])), (q8, .inl (cA8, 256, .inl (fun _ => 0))), (q17, .inl (cA17, 256, .inl (fun _ => 0))), (q24, .inl (cA24, 4, .inl (fun _ => 0))), (q31, .inl (cA31, 4, .inl (fun _ => 0))), (q38, .inl (cA38, 4, .inl (fun _ => 0))), (q44, .inr (1, [.ref r48, .int 256, .int 256, .int 0, .int 0, .int 0, .int 0])), (r48, .inl (cA48, 8, .inl (fun _ => 0))), (q55, .inr (1, [.null, .int 0, .int 0, .int 0, .int 0, .int 0, .int 0]))] H := hP
  have hD : va_D A [(h0, .inr (0, [.ref q8, .ref q17, .ref q24, .ref q31, .ref q38, .ref q44, .null, .int 0, .int 0, .int 0, .int 0, .int 0, .int 0, .int 0, .int 0])), (q8, .inl (cA8, 256, .inl (fun _ => 0))), (q17, .inl (cA17, 256, .inl (fun _ => 0))), (q24, .inl (cA24, 4, .inl (fun _ => 0))), (q31, .inl (cA31, 4, .inl (fun _ => 0))), (q38, .inl (cA38, 4, .inl (fun _ => 0))), (q44, .inr (1, [.ref r48, .int 256, .int 256, .int 0, .int 0, .int 0, .int 0])), (r48, .inl (cA48, 8, .inl (fun _ => 0))), (q55, .inr (1, [.null, .int 0, .int 0, .int 0, .int 0, .int 0, .int 0]))] := hD
  refine lv_dup hx hb dK_init_58 rfl ?_
  have hPc := hP.sub (ws' := [(q55, .inr (1, [.null, .int 0, .int 0, .int 0, .int 0, .int 0, .int 0]))]) [8] rfl
  have hDc := hD.sub (ws' := [(q55, .inr (1, [.null, .int 0, .int 0, .int 0, .int 0, .int 0, .int 0]))]) [8] (by decide) rfl
  have hKc := hK.sub (tys' := []) [] rfl
  have hFc := va_free (wc := [(q55, .inr (1, [.null, .int 0, .int 0, .int 0, .int 0, .int 0, .int 0]))]) hD hS hA [8] rfl
  refine va_callv (va_runI (As := []) (rest := [.ref q55, .ref h0]) ⟨hx, hb, hml, hown, hts⟩ (c_R_init l D q55 H.size) (cwI 0 hts (nm_c w_cdQ) rfl rfl rfl (hts _ w_iiQ) (hts _ wK_m27) (hts _ w_imQ) rfl (by decide +kernel) ⟨Nat.le_of_ble_eq_true rfl, Nat.le_of_ble_eq_true rfl⟩) ⟨fun a U g mk q => by obtain ⟨q0, q1, qP, qK, qD⟩ := q; exact ⟨q0, q1, qP, va_K.moved (u := U) (U := U.calling g mk a) (Vm.Alike.refl U.vm) qK, qD⟩, fun U hU hW => ⟨rfl, by rw [hU], by rw [hU]; exact hPc, va_K.moved hW.alike hKc, hDc.weaken (fun _ _ _ _ => trivial)⟩⟩ rfl rfl hl.1 rfl (lv_room (Nat.le_of_ble_eq_true rfl)) dK_init_59 ⟨show 8 + 1 ≤ 9 by decide, show 546 + 8 ≤ 554 by decide⟩) hS (fun q _ h => hFc q h) hFc (fun u t H1 locs ht hvm hw hB hz1 hk1 hS => ?_)
  obtain ⟨r59, cA59⟩ := u
  obtain ⟨hP1, hK1, hD1⟩ := hB
  rw [ht] at hP1
  have hK1 := va_K.moved hvm.symm hK1
  obtain ⟨hP, hD⟩ := va_join (wr := [(h0, .inr (0, [.ref q8, .ref q17, .ref q24, .ref q31, .ref q38, .ref q44, .null, .int 0, .int 0, .int 0, .int 0, .int 0, .int 0, .int 0, .int 0])), (q8, .inl (cA8, 256, .inl (fun _ => 0))), (q17, .inl (cA17, 256, .inl (fun _ => 0))), (q24, .inl (cA24, 4, .inl (fun _ => 0))), (q31, .inl (cA31, 4, .inl (fun _ => 0))), (q38, .inl (cA38, 4, .inl (fun _ => 0))), (q44, .inr (1, [.ref r48, .int 256, .int 256, .int 0, .int 0, .int 0, .int 0])), (r48, .inl (cA48, 8, .inl (fun _ => 0)))]) (w1 := [(q55, .inr (1, [.ref r59, .int 256, .int 256, .int 0, .int 0, .int 0, .int 0])), (r59, .inl (cA59, 8, .inl (fun _ => 0)))]) hP hD [8] [0, 1, 2, 3, 4, 5, 6, 7] rfl rfl (by decide) (by decide) hk1 hFc hP1 hD1
  have hK := (hK.sub (tys' := [(cA8, .int), (cA17, .int), (cA24, .int), (cA31, .int), (cA38, .int), (cA48, .int)]) [0, 1, 2, 3, 4, 5] rfl).app hK1
  generalize H1 = H at hP hS ⊢
  have hP : va_P D vwCl [(h0, .inr (0, [.ref q8, .ref q17, .ref q24, .ref q31, .ref q38, .ref q44, .null, .int 0, .int 0, .int 0, .int 0, .int 0, .int 0, .int 0, .int 0])), (q8, .inl (cA8, 256, .inl (fun _ => 0))), (q17, .inl (cA17, 256, .inl (fun _ => 0))), (q24, .inl (cA24, 4, .inl (fun _ => 0))), (q31, .inl (cA31, 4, .inl (fun _ => 0))), (q38, .inl (cA38, 4, .inl (fun _ => 0))), (q44, .inr (1, [.ref r48, .int 256, .int 256, .int 0, .int 0, .int 0, .int 0])), (r48, .inl (cA48, 8, .inl (fun _ => 0))), (q55, .inr (1, [.ref r59, .int 256, .int 256, .int 0, .int 0, .int 0, .int 0])), (r59, .inl (cA59, 8, .inl (fun _ => 0)))] H := hP
  have hD : va_D A [(h0, .inr (0, [.ref q8, .ref q17, .ref q24, .ref q31, .ref q38, .ref q44, .null, .int 0, .int 0, .int 0, .int 0, .int 0, .int 0, .int 0, .int 0])), (q8, .inl (cA8, 256, .inl (fun _ => 0))), (q17, .inl (cA17, 256, .inl (fun _ => 0))), (q24, .inl (cA24, 4, .inl (fun _ => 0))), (q31, .inl (cA31, 4, .inl (fun _ => 0))), (q38, .inl (cA38, 4, .inl (fun _ => 0))), (q44, .inr (1, [.ref r48, .int 256, .int 256, .int 0, .int 0, .int 0, .int 0])), (r48, .inl (cA48, 8, .inl (fun _ => 0))), (q55, .inr (1, [.ref r59, .int 256, .int 256, .int 0, .int 0, .int 0, .int 0])), (r59, .inl (cA59, 8, .inl (fun _ => 0)))] := hD
  have hK : va_K D vwCl [(cA8, .int), (cA17, .int), (cA24, .int), (cA31, .int), (cA38, .int), (cA48, .int), (cA59, .int)] s := hK
  refine va_putF (D := D) (ci := 0) (v := .ref q55) (ty := (.object "TwoWorlds$Registers")) (C := RK) (T := TK) (N := 15) hx hb hts inK tyK tyK_ok nmK hown hK hP hD hS 0 rfl rfl 6 (by decide) (hts _ wK_f32) (fun _ h9 => h9) rfl hin rfl (by decide +kernel) rfl rfl (Nat.le_of_ble_eq_true rfl) dK_init_62 (fun H locs hP hD hS => ?_)
  have hP : va_P D vwCl [(h0, .inr (0, [.ref q8, .ref q17, .ref q24, .ref q31, .ref q38, .ref q44, .ref q55, .int 0, .int 0, .int 0, .int 0, .int 0, .int 0, .int 0, .int 0])), (q8, .inl (cA8, 256, .inl (fun _ => 0))), (q17, .inl (cA17, 256, .inl (fun _ => 0))), (q24, .inl (cA24, 4, .inl (fun _ => 0))), (q31, .inl (cA31, 4, .inl (fun _ => 0))), (q38, .inl (cA38, 4, .inl (fun _ => 0))), (q44, .inr (1, [.ref r48, .int 256, .int 256, .int 0, .int 0, .int 0, .int 0])), (r48, .inl (cA48, 8, .inl (fun _ => 0))), (q55, .inr (1, [.ref r59, .int 256, .int 256, .int 0, .int 0, .int 0, .int 0])), (r59, .inl (cA59, 8, .inl (fun _ => 0)))] H := hP
  have hD : va_D A [(h0, .inr (0, [.ref q8, .ref q17, .ref q24, .ref q31, .ref q38, .ref q44, .ref q55, .int 0, .int 0, .int 0, .int 0, .int 0, .int 0, .int 0, .int 0])), (q8, .inl (cA8, 256, .inl (fun _ => 0))), (q17, .inl (cA17, 256, .inl (fun _ => 0))), (q24, .inl (cA24, 4, .inl (fun _ => 0))), (q31, .inl (cA31, 4, .inl (fun _ => 0))), (q38, .inl (cA38, 4, .inl (fun _ => 0))), (q44, .inr (1, [.ref r48, .int 256, .int 256, .int 0, .int 0, .int 0, .int 0])), (r48, .inl (cA48, 8, .inl (fun _ => 0))), (q55, .inr (1, [.ref r59, .int 256, .int 256, .int 0, .int 0, .int 0, .int 0])), (r59, .inl (cA59, 8, .inl (fun _ => 0)))] := hD
  refine lv_aload_n hx hb dK_init_65 rfl (lv_at hl 0 rfl) ?_
  refine lv_iconst (v := 1) hx hb dK_init_66 (by decide) ?_
  refine va_put (D := D) (ci := 0) (v := .int 1) (ty := .boolean) (C := RK) (T := TK) (N := 15) hx hb hts inK tyK tyK_ok nmK hown hK hP hD hS 0 rfl rfl 7 (by decide) (hts _ wK_f35) (fun _ h9 => h9) rfl (by decide +kernel) rfl rfl (Nat.le_of_ble_eq_true rfl) dK_init_67 (fun H locs hP hD hS => ?_)
  have hP : va_P D vwCl [(h0, .inr (0, [.ref q8, .ref q17, .ref q24, .ref q31, .ref q38, .ref q44, .ref q55, .int 1, .int 0, .int 0, .int 0, .int 0, .int 0, .int 0, .int 0])), (q8, .inl (cA8, 256, .inl (fun _ => 0))), (q17, .inl (cA17, 256, .inl (fun _ => 0))), (q24, .inl (cA24, 4, .inl (fun _ => 0))), (q31, .inl (cA31, 4, .inl (fun _ => 0))), (q38, .inl (cA38, 4, .inl (fun _ => 0))), (q44, .inr (1, [.ref r48, .int 256, .int 256, .int 0, .int 0, .int 0, .int 0])), (r48, .inl (cA48, 8, .inl (fun _ => 0))), (q55, .inr (1, [.ref r59, .int 256, .int 256, .int 0, .int 0, .int 0, .int 0])), (r59, .inl (cA59, 8, .inl (fun _ => 0)))] H := hP
  have hD : va_D A [(h0, .inr (0, [.ref q8, .ref q17, .ref q24, .ref q31, .ref q38, .ref q44, .ref q55, .int 1, .int 0, .int 0, .int 0, .int 0, .int 0, .int 0, .int 0])), (q8, .inl (cA8, 256, .inl (fun _ => 0))), (q17, .inl (cA17, 256, .inl (fun _ => 0))), (q24, .inl (cA24, 4, .inl (fun _ => 0))), (q31, .inl (cA31, 4, .inl (fun _ => 0))), (q38, .inl (cA38, 4, .inl (fun _ => 0))), (q44, .inr (1, [.ref r48, .int 256, .int 256, .int 0, .int 0, .int 0, .int 0])), (r48, .inl (cA48, 8, .inl (fun _ => 0))), (q55, .inr (1, [.ref r59, .int 256, .int 256, .int 0, .int 0, .int 0, .int 0])), (r59, .inl (cA59, 8, .inl (fun _ => 0)))] := hD
  obtain rfl : cA8 = cA17 := ca_eq hK 0 1 rfl rfl
  obtain rfl : cA8 = cA24 := ca_eq hK 0 2 rfl rfl
  obtain rfl : cA8 = cA31 := ca_eq hK 0 3 rfl rfl
  obtain rfl : cA8 = cA38 := ca_eq hK 0 4 rfl rfl
  obtain rfl : cA8 = cA48 := ca_eq hK 0 5 rfl rfl
  obtain rfl : cA8 = cA59 := ca_eq hK 0 6 rfl rfl
  obtain ⟨qf, hq⟩ : ∃ qf : Nat → Nat, qf = (fun k => if k = 0 then h0 else if k = 1 then q8 else if k = 2 then q17 else if k = 3 then q24 else if k = 4 then q31 else if k = 5 then q38 else if k = 6 then q44 else if k = 7 then q55 else if k = 8 then r48 else r59) := ⟨_, rfl⟩
  have hP9 : va_P D vwCl (wsK qf cA8 kI0) H := hP.sub [0, 1, 2, 3, 4, 5, 6, 8, 7, 9] (by rw [hq]; rfl)
  have hD9 : va_D A (wsK qf cA8 kI0) := hD.sub [0, 1, 2, 3, 4, 5, 6, 8, 7, 9] (by decide) (by rw [hq]; rfl)
  have hK9 : va_K D vwCl [(cA8, .int)] s := hK.sub [0] rfl
  exact W.vret hx hb hr (fun t ht hW => ⟨⟨(qf, cA8), rfl, by rw [hq]; rfl, by rw [ht]; exact hP9, va_K.moved hW.alike hK9, hD9⟩, hS.F ht⟩) hS.2.2 dK_init_70
set_option maxRecDepth 100000 in
set_option maxHeartbeats 4000000 in
theorem c_M_init (l : Launch) (D : va_G) (h0 sz : Nat) : Met l yM_init wsM_init { frames := 1, cells := 6, slots := 292, locals := 12 } (va_Pc [.ref h0] (fun U => U.heap.size = sz ∧ va_P D vwCl [(h0, .inr (2, [.null, .null, .null, .null, .int 0, .int 0, .int 0, .int 0, .null, .null, .int 0, .int 0, .int 0, .int 0, .int 0]))] U.heap ∧ va_K D vwCl [] U ∧ va_D (fun _ => True) [(h0, .inr (2, [.null, .null, .null, .null, .int 0, .int 0, .int 0, .int 0, .null, .null, .int 0, .int 0, .int 0, .int 0, .int 0]))])) (va_Qv (fun u : (Nat → Nat) × ClassId => u.1 0 = h0) (fun u t => va_P D vwCl (wsM u.1 u.2 mI0) t.heap ∧ va_K D vwCl [(u.2, .int)] t ∧ va_D (va_A [(h0, .inr (2, [.null, .null, .null, .null, .int 0, .int 0, .int 0, .int 0, .null, .null, .int 0, .int 0, .int 0, .int 0, .int 0]))] sz) (wsM u.1 u.2 mI0)) (va_A [(h0, .inr (2, [.null, .null, .null, .null, .int 0, .int 0, .int 0, .int 0, .null, .null, .int 0, .int 0, .int 0, .int 0, .int 0]))] sz)) 6 292 (va_A [(h0, .inr (2, [.null, .null, .null, .null, .int 0, .int 0, .int 0, .int 0, .null, .null, .int 0, .int 0, .int 0, .int 0, .int 0]))] sz) := by
  refine Met.ofW (cc := cM_init) (maxL := 1) (ret := none) (by decide) rfl ?_
  intro p e s m args below meth c s₁ B hml hv
  obtain ⟨rfl, hsz, hP, hK, hD0⟩ := hv
  have hx := B.exec
  have hb := B.bytes
  have hr := B.returns
  have hts : ∀ w ∈ gw, w.before ([.ref h0] : List Value).toArray s = true := fun w h => atoms_spec (ws := wsM_init) B.pre w (List.mem_cons_of_mem _ h)
  have hown : s.vm.findClass RM = some m.cls := findClass_of_methodNamed B.named
  have hlocks := B.notSynchronized
  have hin : meth.name = "<init>" := (name_of_methodNamed B.named B.method).1
  subst hsz
  have hD := hD0.self (sz := s.heap.size)
  generalize hAe : va_A [(h0, .inr (2, [.null, .null, .null, .null, .int 0, .int 0, .int 0, .int 0, .null, .null, .int 0, .int 0, .int 0, .int 0, .int 0]))] s.heap.size = A at hD ⊢
  have hA : ∀ q : Nat, s.heap.size ≤ q → A q := fun q h => by rw [← hAe]; exact Or.inr h
  have hS : va_S A s.heap s.heap [] := va_S.rf
  have hP : va_P D vwCl [(h0, .inr (2, [.null, .null, .null, .null, .int 0, .int 0, .int 0, .int 0, .null, .null, .int 0, .int 0, .int 0, .int 0, .int 0]))] s.heap := hP
  have hl := lv_entry ([.ref h0]) (n := 1) (Nat.le_of_ble_eq_true rfl)
  rw [lg_entry_eq]
  generalize (lg_sl ([.ref h0]) ++ List.replicate (1 - (lg_sl ([.ref h0])).length) Slot.unset).toArray = ls at hl ⊢
  have hl : lv_has ls 1 [(0, .ref h0)] := hl
  refine lv_aload_n hx hb dM_init_0 rfl (lv_at hl 0 rfl) ?_
  refine W.objInit hx hb hown (hts _ wM_m1) (hts _ w_oi) (hts _ w_oc) rfl (by rw [hml]; exact hl.1) rfl dM_init_1 (Nat.le_of_ble_eq_true rfl) (Nat.le_of_ble_eq_true rfl) ?_
  refine W.eq (g2 := F0 m 4 ls []) rfl ?_
  refine lv_aload_n hx hb dM_init_4 rfl (lv_at hl 0 rfl) ?_
  refine lv_sipush (v := 256) hx hb dM_init_5 (by decide) ?_
  refine va_newa (atype := .int) (ty := .int) (N' := 256) (a0 := (256, .inl (fun _ => 0))) hx hb (hts _ w_ai) rfl hK hP hD hS hA (fun _ => rfl) (by decide) (by decide) (by decide) (show 0 + 1 ≤ 6 by decide) (show 0 + 256 ≤ 292 by decide) dM_init_8 (fun q8 cA8 H hK hP hD hS => ?_)
  have hP : va_P D vwCl [(h0, .inr (2, [.null, .null, .null, .null, .int 0, .int 0, .int 0, .int 0, .null, .null, .int 0, .int 0, .int 0, .int 0, .int 0])), (q8, .inl (cA8, 256, .inl (fun _ => 0)))] H := hP
  have hD : va_D A [(h0, .inr (2, [.null, .null, .null, .null, .int 0, .int 0, .int 0, .int 0, .null, .null, .int 0, .int 0, .int 0, .int 0, .int 0])), (q8, .inl (cA8, 256, .inl (fun _ => 0)))] := hD
  have hK : va_K D vwCl [(cA8, .int)] s := hK
  refine va_put (D := D) (ci := 2) (v := .ref q8) (ty := (.array .int)) (C := RM) (T := TM) (N := 15) hx hb hts inM tyM tyM_ok nmM hown hK hP hD hS 0 rfl rfl 0 (by decide) (hts _ wM_f7) (fun _ h9 => h9) rfl (by decide +kernel) rfl rfl (Nat.le_of_ble_eq_true rfl) dM_init_10 (fun H locs hP hD hS => ?_)
  have hP : va_P D vwCl [(h0, .inr (2, [.ref q8, .null, .null, .null, .int 0, .int 0, .int 0, .int 0, .null, .null, .int 0, .int 0, .int 0, .int 0, .int 0])), (q8, .inl (cA8, 256, .inl (fun _ => 0)))] H := hP
  have hD : va_D A [(h0, .inr (2, [.ref q8, .null, .null, .null, .int 0, .int 0, .int 0, .int 0, .null, .null, .int 0, .int 0, .int 0, .int 0, .int 0])), (q8, .inl (cA8, 256, .inl (fun _ => 0)))] := hD
  refine lv_aload_n hx hb dM_init_13 rfl (lv_at hl 0 rfl) ?_
  refine lv_iconst (v := 4) hx hb dM_init_14 (by decide) ?_
  refine va_newa (atype := .int) (ty := .int) (N' := 4) (a0 := (4, .inl (fun _ => 0))) hx hb (hts _ w_ai) rfl hK hP hD hS hA (fun _ => rfl) (by decide) (by decide) (by decide) (show 1 + 1 ≤ 6 by decide) (show 256 + 4 ≤ 292 by decide) dM_init_15 (fun q15 cA15 H hK hP hD hS => ?_)
  have hP : va_P D vwCl [(h0, .inr (2, [.ref q8, .null, .null, .null, .int 0, .int 0, .int 0, .int 0, .null, .null, .int 0, .int 0, .int 0, .int 0, .int 0])), (q8, .inl (cA8, 256, .inl (fun _ => 0))), (q15, .inl (cA15, 4, .inl (fun _ => 0)))] H := hP
  have hD : va_D A [(h0, .inr (2, [.ref q8, .null, .null, .null, .int 0, .int 0, .int 0, .int 0, .null, .null, .int 0, .int 0, .int 0, .int 0, .int 0])), (q8, .inl (cA8, 256, .inl (fun _ => 0))), (q15, .inl (cA15, 4, .inl (fun _ => 0)))] := hD
  have hK : va_K D vwCl [(cA8, .int), (cA15, .int)] s := hK
  refine va_put (D := D) (ci := 2) (v := .ref q15) (ty := (.array .int)) (C := RM) (T := TM) (N := 15) hx hb hts inM tyM tyM_ok nmM hown hK hP hD hS 0 rfl rfl 1 (by decide) (hts _ wM_f13) (fun _ h9 => h9) rfl (by decide +kernel) rfl rfl (Nat.le_of_ble_eq_true rfl) dM_init_17 (fun H locs hP hD hS => ?_)
  have hP : va_P D vwCl [(h0, .inr (2, [.ref q8, .ref q15, .null, .null, .int 0, .int 0, .int 0, .int 0, .null, .null, .int 0, .int 0, .int 0, .int 0, .int 0])), (q8, .inl (cA8, 256, .inl (fun _ => 0))), (q15, .inl (cA15, 4, .inl (fun _ => 0)))] H := hP
  have hD : va_D A [(h0, .inr (2, [.ref q8, .ref q15, .null, .null, .int 0, .int 0, .int 0, .int 0, .null, .null, .int 0, .int 0, .int 0, .int 0, .int 0])), (q8, .inl (cA8, 256, .inl (fun _ => 0))), (q15, .inl (cA15, 4, .inl (fun _ => 0)))] := hD
  refine lv_aload_n hx hb dM_init_20 rfl (lv_at hl 0 rfl) ?_
  refine lv_iconst (v := 4) hx hb dM_init_21 (by decide) ?_
  refine va_newa (atype := .int) (ty := .int) (N' := 4) (a0 := (4, .inl (fun _ => 0))) hx hb (hts _ w_ai) rfl hK hP hD hS hA (fun _ => rfl) (by decide) (by decide) (by decide) (show 2 + 1 ≤ 6 by decide) (show 260 + 4 ≤ 292 by decide) dM_init_22 (fun q22 cA22 H hK hP hD hS => ?_)
  have hP : va_P D vwCl [(h0, .inr (2, [.ref q8, .ref q15, .null, .null, .int 0, .int 0, .int 0, .int 0, .null, .null, .int 0, .int 0, .int 0, .int 0, .int 0])), (q8, .inl (cA8, 256, .inl (fun _ => 0))), (q15, .inl (cA15, 4, .inl (fun _ => 0))), (q22, .inl (cA22, 4, .inl (fun _ => 0)))] H := hP
  have hD : va_D A [(h0, .inr (2, [.ref q8, .ref q15, .null, .null, .int 0, .int 0, .int 0, .int 0, .null, .null, .int 0, .int 0, .int 0, .int 0, .int 0])), (q8, .inl (cA8, 256, .inl (fun _ => 0))), (q15, .inl (cA15, 4, .inl (fun _ => 0))), (q22, .inl (cA22, 4, .inl (fun _ => 0)))] := hD
  have hK : va_K D vwCl [(cA8, .int), (cA15, .int), (cA22, .int)] s := hK
  refine va_put (D := D) (ci := 2) (v := .ref q22) (ty := (.array .int)) (C := RM) (T := TM) (N := 15) hx hb hts inM tyM tyM_ok nmM hown hK hP hD hS 0 rfl rfl 2 (by decide) (hts _ wM_f16) (fun _ h9 => h9) rfl (by decide +kernel) rfl rfl (Nat.le_of_ble_eq_true rfl) dM_init_24 (fun H locs hP hD hS => ?_)
  have hP : va_P D vwCl [(h0, .inr (2, [.ref q8, .ref q15, .ref q22, .null, .int 0, .int 0, .int 0, .int 0, .null, .null, .int 0, .int 0, .int 0, .int 0, .int 0])), (q8, .inl (cA8, 256, .inl (fun _ => 0))), (q15, .inl (cA15, 4, .inl (fun _ => 0))), (q22, .inl (cA22, 4, .inl (fun _ => 0)))] H := hP
  have hD : va_D A [(h0, .inr (2, [.ref q8, .ref q15, .ref q22, .null, .int 0, .int 0, .int 0, .int 0, .null, .null, .int 0, .int 0, .int 0, .int 0, .int 0])), (q8, .inl (cA8, 256, .inl (fun _ => 0))), (q15, .inl (cA15, 4, .inl (fun _ => 0))), (q22, .inl (cA22, 4, .inl (fun _ => 0)))] := hD
  refine lv_aload_n hx hb dM_init_27 rfl (lv_at hl 0 rfl) ?_
  refine lv_iconst (v := 4) hx hb dM_init_28 (by decide) ?_
  refine va_newa (atype := .int) (ty := .int) (N' := 4) (a0 := (4, .inl (fun _ => 0))) hx hb (hts _ w_ai) rfl hK hP hD hS hA (fun _ => rfl) (by decide) (by decide) (by decide) (show 3 + 1 ≤ 6 by decide) (show 264 + 4 ≤ 292 by decide) dM_init_29 (fun q29 cA29 H hK hP hD hS => ?_)
  have hP : va_P D vwCl [(h0, .inr (2, [.ref q8, .ref q15, .ref q22, .null, .int 0, .int 0, .int 0, .int 0, .null, .null, .int 0, .int 0, .int 0, .int 0, .int 0])), (q8, .inl (cA8, 256, .inl (fun _ => 0))), (q15, .inl (cA15, 4, .inl (fun _ => 0))), (q22, .inl (cA22, 4, .inl (fun _ => 0))), (q29, .inl (cA29, 4, .inl (fun _ => 0)))] H := hP
  have hD : va_D A [(h0, .inr (2, [.ref q8, .ref q15, .ref q22, .null, .int 0, .int 0, .int 0, .int 0, .null, .null, .int 0, .int 0, .int 0, .int 0, .int 0])), (q8, .inl (cA8, 256, .inl (fun _ => 0))), (q15, .inl (cA15, 4, .inl (fun _ => 0))), (q22, .inl (cA22, 4, .inl (fun _ => 0))), (q29, .inl (cA29, 4, .inl (fun _ => 0)))] := hD
  have hK : va_K D vwCl [(cA8, .int), (cA15, .int), (cA22, .int), (cA29, .int)] s := hK
  refine va_put (D := D) (ci := 2) (v := .ref q29) (ty := (.array .int)) (C := RM) (T := TM) (N := 15) hx hb hts inM tyM tyM_ok nmM hown hK hP hD hS 0 rfl rfl 3 (by decide) (hts _ wM_f19) (fun _ h9 => h9) rfl (by decide +kernel) rfl rfl (Nat.le_of_ble_eq_true rfl) dM_init_31 (fun H locs hP hD hS => ?_)
  have hP : va_P D vwCl [(h0, .inr (2, [.ref q8, .ref q15, .ref q22, .ref q29, .int 0, .int 0, .int 0, .int 0, .null, .null, .int 0, .int 0, .int 0, .int 0, .int 0])), (q8, .inl (cA8, 256, .inl (fun _ => 0))), (q15, .inl (cA15, 4, .inl (fun _ => 0))), (q22, .inl (cA22, 4, .inl (fun _ => 0))), (q29, .inl (cA29, 4, .inl (fun _ => 0)))] H := hP
  have hD : va_D A [(h0, .inr (2, [.ref q8, .ref q15, .ref q22, .ref q29, .int 0, .int 0, .int 0, .int 0, .null, .null, .int 0, .int 0, .int 0, .int 0, .int 0])), (q8, .inl (cA8, 256, .inl (fun _ => 0))), (q15, .inl (cA15, 4, .inl (fun _ => 0))), (q22, .inl (cA22, 4, .inl (fun _ => 0))), (q29, .inl (cA29, 4, .inl (fun _ => 0)))] := hD
  refine lv_aload_n hx hb dM_init_34 rfl (lv_at hl 0 rfl) ?_
  refine lv_iconst (v := 1) hx hb dM_init_35 (by decide) ?_
  refine va_put (D := D) (ci := 2) (v := .int 1) (ty := .boolean) (C := RM) (T := TM) (N := 15) hx hb hts inM tyM tyM_ok nmM hown hK hP hD hS 0 rfl rfl 4 (by decide) (hts _ wM_f22) (fun _ h9 => h9) rfl (by decide +kernel) rfl rfl (Nat.le_of_ble_eq_true rfl) dM_init_36 (fun H locs hP hD hS => ?_)
  have hP : va_P D vwCl [(h0, .inr (2, [.ref q8, .ref q15, .ref q22, .ref q29, .int 1, .int 0, .int 0, .int 0, .null, .null, .int 0, .int 0, .int 0, .int 0, .int 0])), (q8, .inl (cA8, 256, .inl (fun _ => 0))), (q15, .inl (cA15, 4, .inl (fun _ => 0))), (q22, .inl (cA22, 4, .inl (fun _ => 0))), (q29, .inl (cA29, 4, .inl (fun _ => 0)))] H := hP
  have hD : va_D A [(h0, .inr (2, [.ref q8, .ref q15, .ref q22, .ref q29, .int 1, .int 0, .int 0, .int 0, .null, .null, .int 0, .int 0, .int 0, .int 0, .int 0])), (q8, .inl (cA8, 256, .inl (fun _ => 0))), (q15, .inl (cA15, 4, .inl (fun _ => 0))), (q22, .inl (cA22, 4, .inl (fun _ => 0))), (q29, .inl (cA29, 4, .inl (fun _ => 0)))] := hD
  refine lv_aload_n hx hb dM_init_39 rfl (lv_at hl 0 rfl) ?_
  refine lv_bipush (v := 12) hx hb dM_init_40 (by decide) ?_
  refine va_newa (atype := .int) (ty := .int) (N' := 12) (a0 := (12, .inl (fun _ => 0))) hx hb (hts _ w_ai) rfl hK hP hD hS hA (fun _ => rfl) (by decide) (by decide) (by decide) (show 4 + 1 ≤ 6 by decide) (show 268 + 12 ≤ 292 by decide) dM_init_42 (fun q42 cA42 H hK hP hD hS => ?_)
  have hP : va_P D vwCl [(h0, .inr (2, [.ref q8, .ref q15, .ref q22, .ref q29, .int 1, .int 0, .int 0, .int 0, .null, .null, .int 0, .int 0, .int 0, .int 0, .int 0])), (q8, .inl (cA8, 256, .inl (fun _ => 0))), (q15, .inl (cA15, 4, .inl (fun _ => 0))), (q22, .inl (cA22, 4, .inl (fun _ => 0))), (q29, .inl (cA29, 4, .inl (fun _ => 0))), (q42, .inl (cA42, 12, .inl (fun _ => 0)))] H := hP
  have hD : va_D A [(h0, .inr (2, [.ref q8, .ref q15, .ref q22, .ref q29, .int 1, .int 0, .int 0, .int 0, .null, .null, .int 0, .int 0, .int 0, .int 0, .int 0])), (q8, .inl (cA8, 256, .inl (fun _ => 0))), (q15, .inl (cA15, 4, .inl (fun _ => 0))), (q22, .inl (cA22, 4, .inl (fun _ => 0))), (q29, .inl (cA29, 4, .inl (fun _ => 0))), (q42, .inl (cA42, 12, .inl (fun _ => 0)))] := hD
  have hK : va_K D vwCl [(cA8, .int), (cA15, .int), (cA22, .int), (cA29, .int), (cA42, .int)] s := hK
  refine va_put (D := D) (ci := 2) (v := .ref q42) (ty := (.array .int)) (C := RM) (T := TM) (N := 15) hx hb hts inM tyM tyM_ok nmM hown hK hP hD hS 0 rfl rfl 8 (by decide) (hts _ wM_f26) (fun _ h9 => h9) rfl (by decide +kernel) rfl rfl (Nat.le_of_ble_eq_true rfl) dM_init_44 (fun H locs hP hD hS => ?_)
  have hP : va_P D vwCl [(h0, .inr (2, [.ref q8, .ref q15, .ref q22, .ref q29, .int 1, .int 0, .int 0, .int 0, .ref q42, .null, .int 0, .int 0, .int 0, .int 0, .int 0])), (q8, .inl (cA8, 256, .inl (fun _ => 0))), (q15, .inl (cA15, 4, .inl (fun _ => 0))), (q22, .inl (cA22, 4, .inl (fun _ => 0))), (q29, .inl (cA29, 4, .inl (fun _ => 0))), (q42, .inl (cA42, 12, .inl (fun _ => 0)))] H := hP
  have hD : va_D A [(h0, .inr (2, [.ref q8, .ref q15, .ref q22, .ref q29, .int 1, .int 0, .int 0, .int 0, .ref q42, .null, .int 0, .int 0, .int 0, .int 0, .int 0])), (q8, .inl (cA8, 256, .inl (fun _ => 0))), (q15, .inl (cA15, 4, .inl (fun _ => 0))), (q22, .inl (cA22, 4, .inl (fun _ => 0))), (q29, .inl (cA29, 4, .inl (fun _ => 0))), (q42, .inl (cA42, 12, .inl (fun _ => 0)))] := hD
  refine lv_aload_n hx hb dM_init_47 rfl (lv_at hl 0 rfl) ?_
  refine lv_bipush (v := 12) hx hb dM_init_48 (by decide) ?_
  refine va_newa (atype := .int) (ty := .int) (N' := 12) (a0 := (12, .inl (fun _ => 0))) hx hb (hts _ w_ai) rfl hK hP hD hS hA (fun _ => rfl) (by decide) (by decide) (by decide) (show 5 + 1 ≤ 6 by decide) (show 280 + 12 ≤ 292 by decide) dM_init_50 (fun q50 cA50 H hK hP hD hS => ?_)
  have hP : va_P D vwCl [(h0, .inr (2, [.ref q8, .ref q15, .ref q22, .ref q29, .int 1, .int 0, .int 0, .int 0, .ref q42, .null, .int 0, .int 0, .int 0, .int 0, .int 0])), (q8, .inl (cA8, 256, .inl (fun _ => 0))), (q15, .inl (cA15, 4, .inl (fun _ => 0))), (q22, .inl (cA22, 4, .inl (fun _ => 0))), (q29, .inl (cA29, 4, .inl (fun _ => 0))), (q42, .inl (cA42, 12, .inl (fun _ => 0))), (q50, .inl (cA50, 12, .inl (fun _ => 0)))] H := hP
  have hD : va_D A [(h0, .inr (2, [.ref q8, .ref q15, .ref q22, .ref q29, .int 1, .int 0, .int 0, .int 0, .ref q42, .null, .int 0, .int 0, .int 0, .int 0, .int 0])), (q8, .inl (cA8, 256, .inl (fun _ => 0))), (q15, .inl (cA15, 4, .inl (fun _ => 0))), (q22, .inl (cA22, 4, .inl (fun _ => 0))), (q29, .inl (cA29, 4, .inl (fun _ => 0))), (q42, .inl (cA42, 12, .inl (fun _ => 0))), (q50, .inl (cA50, 12, .inl (fun _ => 0)))] := hD
  have hK : va_K D vwCl [(cA8, .int), (cA15, .int), (cA22, .int), (cA29, .int), (cA42, .int), (cA50, .int)] s := hK
  refine va_put (D := D) (ci := 2) (v := .ref q50) (ty := (.array .int)) (C := RM) (T := TM) (N := 15) hx hb hts inM tyM tyM_ok nmM hown hK hP hD hS 0 rfl rfl 9 (by decide) (hts _ wM_f29) (fun _ h9 => h9) rfl (by decide +kernel) rfl rfl (Nat.le_of_ble_eq_true rfl) dM_init_52 (fun H locs hP hD hS => ?_)
  have hP : va_P D vwCl [(h0, .inr (2, [.ref q8, .ref q15, .ref q22, .ref q29, .int 1, .int 0, .int 0, .int 0, .ref q42, .ref q50, .int 0, .int 0, .int 0, .int 0, .int 0])), (q8, .inl (cA8, 256, .inl (fun _ => 0))), (q15, .inl (cA15, 4, .inl (fun _ => 0))), (q22, .inl (cA22, 4, .inl (fun _ => 0))), (q29, .inl (cA29, 4, .inl (fun _ => 0))), (q42, .inl (cA42, 12, .inl (fun _ => 0))), (q50, .inl (cA50, 12, .inl (fun _ => 0)))] H := hP
  have hD : va_D A [(h0, .inr (2, [.ref q8, .ref q15, .ref q22, .ref q29, .int 1, .int 0, .int 0, .int 0, .ref q42, .ref q50, .int 0, .int 0, .int 0, .int 0, .int 0])), (q8, .inl (cA8, 256, .inl (fun _ => 0))), (q15, .inl (cA15, 4, .inl (fun _ => 0))), (q22, .inl (cA22, 4, .inl (fun _ => 0))), (q29, .inl (cA29, 4, .inl (fun _ => 0))), (q42, .inl (cA42, 12, .inl (fun _ => 0))), (q50, .inl (cA50, 12, .inl (fun _ => 0)))] := hD
  refine lv_aload_n hx hb dM_init_55 rfl (lv_at hl 0 rfl) ?_
  refine va_get (D := D) (ci := 2) (v := .ref q42) (C := RM) (T := TM) (N := 15) hx hb hts inM hown hK hP 0 rfl rfl 8 (by decide) (hts _ wM_f26) (fun _ h9 => h9) rfl dM_init_56 ?_
  refine lv_bipush (v := 8) hx hb dM_init_59 (by decide) ?_
  refine lv_sipush (v := 256) hx hb dM_init_61 (by decide) ?_
  refine va_iast hx hb hK hP hD hS 5 4 (n := 12) (f := (fun _ => 0)) (i := 8) (x := 256) rfl rfl (vin_c (by decide)) dM_init_64 (fun H locs hP hD hS => ?_)
  have hP : va_P D vwCl [(h0, .inr (2, [.ref q8, .ref q15, .ref q22, .ref q29, .int 1, .int 0, .int 0, .int 0, .ref q42, .ref q50, .int 0, .int 0, .int 0, .int 0, .int 0])), (q8, .inl (cA8, 256, .inl (fun _ => 0))), (q15, .inl (cA15, 4, .inl (fun _ => 0))), (q22, .inl (cA22, 4, .inl (fun _ => 0))), (q29, .inl (cA29, 4, .inl (fun _ => 0))), (q42, .inl (cA42, 12, .inl (upd (fun _ => 0) (ix 8) 256))), (q50, .inl (cA50, 12, .inl (fun _ => 0)))] H := hP
  have hD : va_D A [(h0, .inr (2, [.ref q8, .ref q15, .ref q22, .ref q29, .int 1, .int 0, .int 0, .int 0, .ref q42, .ref q50, .int 0, .int 0, .int 0, .int 0, .int 0])), (q8, .inl (cA8, 256, .inl (fun _ => 0))), (q15, .inl (cA15, 4, .inl (fun _ => 0))), (q22, .inl (cA22, 4, .inl (fun _ => 0))), (q29, .inl (cA29, 4, .inl (fun _ => 0))), (q42, .inl (cA42, 12, .inl (upd (fun _ => 0) (ix 8) 256))), (q50, .inl (cA50, 12, .inl (fun _ => 0)))] := hD
  refine lv_aload_n hx hb dM_init_65 rfl (lv_at hl 0 rfl) ?_
  refine va_get (D := D) (ci := 2) (v := .ref q42) (C := RM) (T := TM) (N := 15) hx hb hts inM hown hK hP 0 rfl rfl 8 (by decide) (hts _ wM_f26) (fun _ h9 => h9) rfl dM_init_66 ?_
  refine lv_bipush (v := 9) hx hb dM_init_69 (by decide) ?_
  refine lv_sipush (v := 256) hx hb dM_init_71 (by decide) ?_
  refine va_iast hx hb hK hP hD hS 5 4 (n := 12) (f := (upd (fun _ => 0) (ix 8) 256)) (i := 9) (x := 256) rfl rfl (vin_c (by decide)) dM_init_74 (fun H locs hP hD hS => ?_)
  have hP : va_P D vwCl [(h0, .inr (2, [.ref q8, .ref q15, .ref q22, .ref q29, .int 1, .int 0, .int 0, .int 0, .ref q42, .ref q50, .int 0, .int 0, .int 0, .int 0, .int 0])), (q8, .inl (cA8, 256, .inl (fun _ => 0))), (q15, .inl (cA15, 4, .inl (fun _ => 0))), (q22, .inl (cA22, 4, .inl (fun _ => 0))), (q29, .inl (cA29, 4, .inl (fun _ => 0))), (q42, .inl (cA42, 12, .inl (upd (upd (fun _ => 0) (ix 8) 256) (ix 9) 256))), (q50, .inl (cA50, 12, .inl (fun _ => 0)))] H := hP
  have hD : va_D A [(h0, .inr (2, [.ref q8, .ref q15, .ref q22, .ref q29, .int 1, .int 0, .int 0, .int 0, .ref q42, .ref q50, .int 0, .int 0, .int 0, .int 0, .int 0])), (q8, .inl (cA8, 256, .inl (fun _ => 0))), (q15, .inl (cA15, 4, .inl (fun _ => 0))), (q22, .inl (cA22, 4, .inl (fun _ => 0))), (q29, .inl (cA29, 4, .inl (fun _ => 0))), (q42, .inl (cA42, 12, .inl (upd (upd (fun _ => 0) (ix 8) 256) (ix 9) 256))), (q50, .inl (cA50, 12, .inl (fun _ => 0)))] := hD
  obtain rfl : cA8 = cA15 := ca_eq hK 0 1 rfl rfl
  obtain rfl : cA8 = cA22 := ca_eq hK 0 2 rfl rfl
  obtain rfl : cA8 = cA29 := ca_eq hK 0 3 rfl rfl
  obtain rfl : cA8 = cA42 := ca_eq hK 0 4 rfl rfl
  obtain rfl : cA8 = cA50 := ca_eq hK 0 5 rfl rfl
  obtain ⟨qf, hq⟩ : ∃ qf : Nat → Nat, qf = (fun k => if k = 0 then h0 else if k = 1 then q8 else if k = 2 then q15 else if k = 3 then q22 else if k = 4 then q29 else if k = 5 then q42 else q50) := ⟨_, rfl⟩
  have hP9 : va_P D vwCl (wsM qf cA8 mI0) H := hP.sub [0, 1, 2, 3, 4, 5, 6] (by rw [hq]; rfl)
  have hD9 : va_D A (wsM qf cA8 mI0) := hD.sub [0, 1, 2, 3, 4, 5, 6] (by decide) (by rw [hq]; rfl)
  have hK9 : va_K D vwCl [(cA8, .int)] s := hK.sub [0] rfl
  exact W.vret hx hb hr (fun t ht hW => ⟨⟨(qf, cA8), rfl, by rw [hq]; rfl, by rw [ht]; exact hP9, va_K.moved hW.alike hK9, hD9⟩, hS.F ht⟩) hS.2.2 dM_init_75
