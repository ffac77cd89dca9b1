theorem vin_s {k L : Nat} (j : Int32) (hj : bt0 j 4) (hk : 5 * k + 5 ≤ L) (hL : L < 2 ^ 31) : vp_in (nI (5 * k) + j) L := by
  obtain ⟨a, ha, rfl⟩ := nI_of2 (M := 4) (n := 4) (by decide) hj.1 hj.2
  rw [nI_add]
  exact vp_in_nI (by omega) hL
theorem vin_0 {k L : Nat} (hk : 5 * k + 5 ≤ L) (hL : L < 2 ^ 31) : vp_in (nI (5 * k)) L := vp_in_nI (by omega) hL
theorem law_gt {k L : Nat} (hk : 5 * k ≤ 2600) (hL : L ≤ 2560) : nI L - 5 < nI (5 * k) ↔ L < 5 * k + 5 := by
  rw [Int32.lt_iff_toInt_lt]
  have e : (nI L - nI 5).toInt = (L : Int) - (5 : Nat) := pk_sub_toInt (by omega) (by decide)
  have e2 : (nI (5 * k)).toInt = ((5 * k : Nat) : Int) := nI_toInt (by omega)
  have e3 : nI L - 5 = nI L - nI 5 := rfl
  rw [e3, e, e2]
  omega
theorem RR_0 : RR kI0 mI0 := by
  refine ⟨fun c hc => ?_, fun k _ => rfl⟩
  match c, hc with
  | 0, _ =>
    show upd (fun _ => 0) 4 1 = v0 kI0 (kI0 6 6)
    funext k
    by_cases h : k = 4 <;> simp [v0, kI0, upd, h]
  | 1, _ => rfl
  | 2, _ => rfl
  | 3, _ => rfl
  | 4, _ => rfl
  | 5, _ =>
    show upd (upd (fun _ => 0) (ix 8) 256) (ix 9) 256 = rg (kI0 6) (kI0 8)
    funext k
    by_cases h : k = 8
    · subst h; rfl
    · by_cases h2 : k = 9
      · subst h2; rfl
      · simp [rg, kI0, upd, ix_8, ix_9, h, h2]
  | 6, hc => exact absurd rfl hc
  | c + 7, _ => rfl
theorem JJ_I : JJ kI0 := by
  have w0 : wd 0 := by decide
  refine ⟨fun j _ => rfl, fun k => w0, ⟨?_, ?_, ?_, ?_, ?_, ?_, fun k => w0⟩, ⟨?_, ?_, ?_, ?_, ?_, ?_, fun k => w0⟩⟩ <;> decide
set_option maxRecDepth 100000 in
set_option maxHeartbeats 8000000 in
theorem whole_start {p : Program} {e : Env} {s : State} {m : MethodId} {below : List Frame} {meth : Method} {c : Code} (l : Launch) {b L : Nat} {xs : Nat → Int32} (hL : L ≤ 2560) (C0 : lw_At p s m meth c b L xs) : W p l e room_1 s m #[Value.ref b] below meth c s.heap [] 0 0 (lw_Z below #[Value.ref b] s) (entryFrame m ([Value.ref b] : List Value).toArray 4) := by
  obtain ⟨hx, hb, hr, hml, hown, hts0, hX, hbl, hlocks, hgv⟩ := C0
  have hts : ∀ w ∈ gw, w.before #[Value.ref b] s = true := fun w h => hts0 w (List.mem_filter.mp h).1
  have hown : s.vm.findClass RL = some m.cls := hown
  obtain ⟨c0, i0, n0⟩ := u_known (N := 15) hts inK (hts _ w_inK)
  obtain ⟨c1, i1, n1⟩ := u_known (N := 7) hts inQ (hts _ w_inQ)
  obtain ⟨c2, i2, n2⟩ := u_known (N := 15) hts inM (hts _ w_inM)
  obtain ⟨D, hDe⟩ : ∃ D : va_G, D = (fun k => if k = 0 then c0 else if k = 1 then c1 else c2, fun k => if k = 0 then i0 else if k = 1 then i1 else i2) := ⟨_, rfl⟩
  have hK : va_K D vwCl [] s := by
    refine ⟨fun k q h => ?_, fun k q h => by simp at h⟩
    subst hDe
    match k, h with
    | 0, h => cases h; exact n0
    | 1, h => cases h; exact n1
    | 2, h => cases h; exact n2
    | k + 3, h => simp [vwCl] at h
  obtain ⟨A, hAe⟩ : ∃ A : Nat → Prop, A = fun q => s.heap.size ≤ q := ⟨_, rfl⟩
  have hA : ∀ q : Nat, s.heap.size ≤ q → A q := fun q h => by rw [hAe]; exact h
  have hA2 : ∀ q : Nat, A q → s.heap.size ≤ q := fun q h => by rw [hAe] at h; exact h
  have hnA : ∀ a : Nat, a < s.heap.size → ¬ A a := fun a h1 h2 => by have := hA2 a h2; omega
  have hbA : ¬ A b := hnA b hbl
  obtain ⟨tN, hZ, hT⟩ := law_tab hts0 hgv hnA
  have hP : va_P D vwCl [] s.heap := fun k q h => by simp at h
  have hD : va_D A [] := ⟨fun i j p q h => by simp at h, fun k q h => by simp at h⟩
  have hS : va_S A s.heap s.heap [] := va_S.rf
  have hl := lv_entry ([.ref b]) (n := 4) (Nat.le_of_ble_eq_true rfl)
  rw [lg_entry_eq]
  generalize (lg_sl ([.ref b]) ++ List.replicate (4 - (lg_sl ([.ref b])).length) Slot.unset).toArray = ls at hl ⊢
  have hl : lv_has ls 4 [(0, .ref b)] := hl
  refine va_new (ci := 0) (fs := [.null, .null, .null, .null, .null, .null, .null, .int 0, .int 0, .int 0, .int 0, .int 0, .int 0, .int 0, .int 0]) (C := RK) (T := TK) (N := 15) hx hb hts inK tyK tyK_ok hown (hts _ wL_k7) (hts _ w_inK) (hts _ w_iiK) hK hP hD hS hA rfl (fun j hj => by rcases (show j = 0 ∨ j = 1 ∨ j = 2 ∨ j = 3 ∨ j = 4 ∨ j = 5 ∨ j = 6 ∨ j = 7 ∨ j = 8 ∨ j = 9 ∨ j = 10 ∨ j = 11 ∨ j = 12 ∨ j = 13 ∨ j = 14 by omega) with rfl | rfl | rfl | rfl | rfl | rfl | rfl | rfl | rfl | rfl | rfl | rfl | rfl | rfl | rfl <;> rfl) (Nat.le_of_ble_eq_true rfl) (Nat.le_of_ble_eq_true rfl) dL_law_0 (fun o0 H hP hD hS => ?_)
  have hP : va_P D vwCl [(o0, .inr (0, [.null, .null, .null, .null, .null, .null, .null, .int 0, .int 0, .int 0, .int 0, .int 0, .int 0, .int 0, .int 0]))] H := hP
  have hD : va_D A [(o0, .inr (0, [.null, .null, .null, .null, .null, .null, .null, .int 0, .int 0, .int 0, .int 0, .int 0, .int 0, .int 0, .int 0]))] := hD
  refine lv_dup hx hb dL_law_3 rfl ?_
  have hPc := hP.sub (ws' := [(o0, .inr (0, [.null, .null, .null, .null, .null, .null, .null, .int 0, .int 0, .int 0, .int 0, .int 0, .int 0, .int 0, .int 0]))]) [0] rfl
  have hDc := hD.sub (ws' := [(o0, .inr (0, [.null, .null, .null, .null, .null, .null, .null, .int 0, .int 0, .int 0, .int 0, .int 0, .int 0, .int 0, .int 0]))]) [0] (by decide) rfl
  have hKc := hK.sub (tys' := []) [] rfl
  have hFc := va_free (wc := [(o0, .inr (0, [.null, .null, .null, .null, .null, .null, .null, .int 0, .int 0, .int 0, .int 0, .int 0, .int 0, .int 0, .int 0]))]) hD hS hA [0] rfl
  refine va_callv (va_runI (As := []) (rest := [.ref o0]) ⟨hx, hb, hml, hown, hts⟩ (c_K_init l D o0 H.size) (cwI 0 hts (nm_c w_cdK) rfl rfl rfl (hts _ w_iiK) (hts _ wL_m9) (hts _ w_imK) rfl (by decide +kernel) ⟨Nat.le_of_ble_eq_true rfl, Nat.le_of_ble_eq_true rfl⟩) ⟨fun a U g mk q => by obtain ⟨q0, q1, qP, qK, qD⟩ := q; exact ⟨q0, q1, qP, va_K.moved (u := U) (U := U.calling g mk a) (Vm.Alike.refl U.vm) qK, qD⟩, fun U hU hW => ⟨rfl, by rw [hU], by rw [hU]; exact hPc, va_K.moved hW.alike hKc, hDc.weaken (fun _ _ _ _ => trivial)⟩⟩ rfl rfl hl.1 rfl (lv_room (Nat.le_of_ble_eq_true rfl)) dL_law_4 ⟨Nat.le_of_ble_eq_true rfl, Nat.le_of_ble_eq_true rfl⟩) hS (fun q _ h => hFc q h) hFc (fun u t H1 locs ht hvm hw hB hz1 hk1 hS => ?_)
  obtain ⟨q, cA⟩ := u
  obtain ⟨hP1, hK1, hD1⟩ := hB
  rw [ht] at hP1
  have hK1 := va_K.moved hvm.symm hK1
  have hw : q 0 = o0 := hw
  obtain ⟨hP, hD⟩ := va_join (wr := []) (w1 := wsK q cA kI0) hP hD [0] [] rfl rfl (by decide) (by decide) hk1 hFc hP1 hD1
  generalize H1 = H at hP hS ⊢
  rw [← hw]
  have hP : va_P D vwCl (wsK q cA kI0) H := hP
  have hD : va_D A (wsK q cA kI0) := hD
  have hKA1 : va_K D vwCl [(cA, .int)] s := hK1
  clear hw hk1 hz1 hP1 hK1 hD1 hPc hDc hKc hFc ht hvm
  refine lv_astore_n (lv' := [(1, .ref (q 0)), (0, .ref b)]) hx hb dL_law_7 rfl hl (by decide) rfl (fun ls hl => ?_)
  refine va_new (ci := 2) (fs := [.null, .null, .null, .null, .int 0, .int 0, .int 0, .int 0, .null, .null, .int 0, .int 0, .int 0, .int 0, .int 0]) (C := RM) (T := TM) (N := 15) hx hb hts inM tyM tyM_ok hown (hts _ wL_k10) (hts _ w_inM) (hts _ w_iiM) hK hP hD hS hA rfl (fun j hj => by rcases (show j = 0 ∨ j = 1 ∨ j = 2 ∨ j = 3 ∨ j = 4 ∨ j = 5 ∨ j = 6 ∨ j = 7 ∨ j = 8 ∨ j = 9 ∨ j = 10 ∨ j = 11 ∨ j = 12 ∨ j = 13 ∨ j = 14 by omega) with rfl | rfl | rfl | rfl | rfl | rfl | rfl | rfl | rfl | rfl | rfl | rfl | rfl | rfl | rfl <;> rfl) (Nat.le_of_ble_eq_true rfl) (Nat.le_of_ble_eq_true rfl) dL_law_8 (fun o8 H hP hD hS => ?_)
  have hP : va_P D vwCl ((wsK q cA kI0) ++ [(o8, .inr (2, [.null, .null, .null, .null, .int 0, .int 0, .int 0, .int 0, .null, .null, .int 0, .int 0, .int 0, .int 0, .int 0]))]) H := hP
  have hD : va_D A ((wsK q cA kI0) ++ [(o8, .inr (2, [.null, .null, .null, .null, .int 0, .int 0, .int 0, .int 0, .null, .null, .int 0, .int 0, .int 0, .int 0, .int 0]))]) := hD
  refine lv_dup hx hb dL_law_11 rfl ?_
  have hPc := hP.sub (ws' := [(o8, .inr (2, [.null, .null, .null, .null, .int 0, .int 0, .int 0, .int 0, .null, .null, .int 0, .int 0, .int 0, .int 0, .int 0]))]) [10] rfl
  have hDc := hD.sub (ws' := [(o8, .inr (2, [.null, .null, .null, .null, .int 0, .int 0, .int 0, .int 0, .null, .null, .int 0, .int 0, .int 0, .int 0, .int 0]))]) [10] (by decide) rfl
  have hKc := hK.sub (tys' := []) [] rfl
  have hFc := va_free (wc := [(o8, .inr (2, [.null, .null, .null, .null, .int 0, .int 0, .int 0, .int 0, .null, .null, .int 0, .int 0, .int 0, .int 0, .int 0]))]) hD hS hA [10] rfl
  refine va_callv (va_runI (As := []) (rest := [.ref o8]) ⟨hx, hb, hml, hown, hts⟩ (c_M_init l D o8 H.size) (cwI 0 hts (nm_c w_cdM) rfl rfl rfl (hts _ w_iiM) (hts _ wL_m12) (hts _ w_imM) rfl (by decide +kernel) ⟨Nat.le_of_ble_eq_true rfl, Nat.le_of_ble_eq_true rfl⟩) ⟨fun a U g mk q => by obtain ⟨q0, q1, qP, qK, qD⟩ := q; exact ⟨q0, q1, qP, va_K.moved (u := U) (U := U.calling g mk a) (Vm.Alike.refl U.vm) qK, qD⟩, fun U hU hW => ⟨rfl, by rw [hU], by rw [hU]; exact hPc, va_K.moved hW.alike hKc, hDc.weaken (fun _ _ _ _ => trivial)⟩⟩ rfl rfl hl.1 rfl (lv_room (Nat.le_of_ble_eq_true rfl)) dL_law_12 ⟨Nat.le_of_ble_eq_true rfl, Nat.le_of_ble_eq_true rfl⟩) hS (fun q _ h => hFc q h) hFc (fun u t H1 locs ht hvm hw hB hz1 hk1 hS => ?_)
  obtain ⟨q', cA'⟩ := u
  obtain ⟨hP1, hK1, hD1⟩ := hB
  rw [ht] at hP1
  have hK1 := va_K.moved hvm.symm hK1
  have hw : q' 0 = o8 := hw
  obtain ⟨hP, hD⟩ := va_join (wr := (wsK q cA kI0)) (w1 := wsM q' cA' mI0) hP hD [10] [0, 1, 2, 3, 4, 5, 6, 7, 8, 9] rfl rfl (by decide) (by decide) hk1 hFc hP1 hD1
  generalize H1 = H at hP hS ⊢
  rw [← hw]
  have hP : va_P D vwCl ((wsK q cA kI0) ++ wsM q' cA' mI0) H := hP
  have hD : va_D A ((wsK q cA kI0) ++ wsM q' cA' mI0) := hD
  have hKA2 : va_K D vwCl [(cA', .int)] s := hK1
  clear hw hk1 hz1 hP1 hK1 hD1 hPc hDc hKc hFc ht hvm
  refine lv_astore_n (lv' := [(2, .ref (q' 0)), (1, .ref (q 0)), (0, .ref b)]) hx hb dL_law_15 rfl hl (by decide) rfl (fun ls hl => ?_)
  have hLX : LX D q q' cA cA' tN s A := ⟨hKA1, hKA2, (LX_D (D := D) hD).1, (LX_D (D := D) hD).2.1, (LX_D (D := D) hD).2.2.1, (LX_D (D := D) hD).2.2.2.1, (LX_D (D := D) hD).2.2.2.2, hZ, hT⟩
  have hPK : va_P D vwCl (wsK q cA kI0) H := hP.sub [0, 1, 2, 3, 4, 5, 6, 7, 8, 9] rfl
  have hPM : va_P D vwCl (wsM q' cA' mI0) H := hP.sub [10, 11, 12, 13, 14, 15, 16] rfl
  refine lv_iconst (v := 0) hx hb dL_law_16 (by decide) ?_
  refine lv_istore_n (lv' := [(3, .int 0), (2, .ref (q' 0)), (1, .ref (q 0)), (0, .ref b)]) hx hb dL_law_17 rfl hl (by decide) rfl (fun ls hl => ?_)
  have b18 : ∀ (f k : Nat) (H : Heap) (locs : List Loc) (ls : Array Slot) (σ τ : St), L < 5 * k + 5 * f + 5 → 5 * k ≤ 2600 → lv_has ls 4 [(0, .ref b), (1, .ref (q 0)), (2, .ref (q' 0)), (3, .int (nI (5 * k)))] → va_P D vwCl (wsK q cA σ) H → va_P D vwCl (wsM q' cA' τ) H → KB σ → MB τ → RR σ τ → JJ σ → va_S A s.heap H locs → W p l e room_1 s m #[Value.ref b] below meth c H locs 17 876 (lw_Z below #[Value.ref b] s) (F0 m 18 ls []) := by
    intro f
    induction f with
    | zero =>
      intro k H locs ls σ τ hf hk hl hP hP2 hB hB2 hR hJ hS
      refine lv_iload_n hx hb dL_law_18 rfl (lv_at hl 3 rfl) ?_
      refine lv_aload_n hx hb dL_law_19 rfl (lv_at hl 0 rfl) ?_
      refine va_slen hx hb hX hbl hbA hS dL_law_20 ?_
      refine lv_iconst (v := 5) hx hb dL_law_21 (by decide) ?_
      refine lv_isub hx hb dL_law_22 ?_
      refine lv_icmp_gt (tgt := 533) hx hb dL_law_23 rfl (fun _ => ?_) (fun h => absurd ((law_gt hk hL).mpr (by omega)) h)
      refine lv_iconst (v := 1) hx hb dL_law_533 (by decide) ?_
      refine W.widen (k := 17) (n := 876) (by decide) (by decide) ?_
      refine va_forget (fun q hq => hA2 _ (hS.2.2 q hq)) ?_
      exact lw_ret hx hb hr hlocks dL_law_534
    | succ f ih =>
      intro k H locs ls σ τ hf hk hl hP hP2 hB hB2 hR hJ hS
      refine lv_iload_n hx hb dL_law_18 rfl (lv_at hl 3 rfl) ?_
      refine lv_aload_n hx hb dL_law_19 rfl (lv_at hl 0 rfl) ?_
      refine va_slen hx hb hX hbl hbA hS dL_law_20 ?_
      refine lv_iconst (v := 5) hx hb dL_law_21 (by decide) ?_
      refine lv_isub hx hb dL_law_22 ?_
      refine lv_icmp_gt (tgt := 533) hx hb dL_law_23 rfl (fun _ => ?_) (fun h => ?_)
      · refine lv_iconst (v := 1) hx hb dL_law_533 (by decide) ?_
        refine W.widen (k := 17) (n := 876) (by decide) (by decide) ?_
        refine va_forget (fun q hq => hA2 _ (hS.2.2 q hq)) ?_
        exact lw_ret hx hb hr hlocks dL_law_534
      have hk5 : 5 * k + 5 ≤ L := Nat.le_of_not_lt (fun z => h ((law_gt hk hL).mpr z))
      have b527 : ∀ (H : Heap) (locs : List Loc) (ls : Array Slot) (σ τ : St), lv_has ls 4 [(0, .ref b), (1, .ref (q 0)), (2, .ref (q' 0)), (3, .int (nI (5 * k)))] → va_P D vwCl (wsK q cA σ) H → va_P D vwCl (wsM q' cA' τ) H → KB σ → MB τ → RR σ τ → JJ σ → va_S A s.heap H locs → W p l e room_1 s m #[Value.ref b] below meth c H locs 17 876 (lw_Z below #[Value.ref b] s) (F0 m 527 ls []) := by
        intro H locs ls σ τ hl hP hP2 hB hB2 hR hJ hS
        refine lv_iinc (k := 3) (v := nI (5 * (k + 1))) (lv' := [(3, .int (nI (5 * (k + 1)))), (0, .ref b), (1, .ref (q 0)), (2, .ref (q' 0))]) hx hb dL_law_527 hl rfl (nI_add (5 * k) 5) (by decide) rfl (fun ls hl => ?_)
        refine lv_goto (tgt := 18) hx hb dL_law_530 rfl ?_
        have hl := lv_sub hl [1, 2, 3, 0] rfl
        exact ih (k + 1) _ _ _ _ _ (by omega) (by omega) hl hP hP2 hB hB2 hR hJ hS
      refine lv_aload_n hx hb dL_law_26 rfl (lv_at hl 0 rfl) ?_
      refine lv_iload_n hx hb dL_law_27 rfl (lv_at hl 3 rfl) ?_
      refine va_sld hx hb hX hbl hbA hS (vin_0 hk5 (by omega)) dL_law_28 ?_
      refine lv_bipush (v := 15) hx hb dL_law_29 (by decide) ?_
      refine lv_iand hx hb dL_law_31 ?_
      refine lv_topi (fun x ex => ?_)
      rcases Classical.em (x = 0) with s0 | s0
      · refine lv_tableIn (tgt := 92) hx hb dL_law_32 (by rw [s0]; decide) (by rw [s0]; decide) (by rw [s0]; rfl) rfl ?_
        refine lv_aload_n hx hb dL_law_92 rfl (lv_at hl 1 rfl) ?_
        refine lv_aload_n hx hb dL_law_93 rfl (lv_at hl 0 rfl) ?_
        refine lv_iload_n hx hb dL_law_94 rfl (lv_at hl 3 rfl) ?_
        refine lv_iconst (v := 1) hx hb dL_law_95 (by decide) ?_
        refine lv_iadd hx hb dL_law_96 ?_
        refine va_sld hx hb hX hbl hbA hS (i := ((nI (5 * k)) + 1)) (vin_s 1 (by decide) (by omega) (by omega)) dL_law_97 ?_
        refine lv_aload_n hx hb dL_law_98 rfl (lv_at hl 0 rfl) ?_
        refine lv_iload_n hx hb dL_law_99 rfl (lv_at hl 3 rfl) ?_
        refine lv_iconst (v := 2) hx hb dL_law_100 (by decide) ?_
        refine lv_iadd hx hb dL_law_101 ?_
        refine va_sld hx hb hX hbl hbA hS (i := ((nI (5 * k)) + 2)) (vin_s 2 (by decide) (by omega) (by omega)) dL_law_102 ?_
        refine lk_call (rest := []) ⟨hx, hb, hml, hown, hts⟩ hLX hP hP2 hB hS (c_k_poke l D q cA tN σ (xs (ix ((nI (5 * k)) + 1))) (xs (ix ((nI (5 * k)) + 2)))) (cwV 2 hts gL_13 rfl rfl rfl hdK_poke ⟨Nat.le_of_ble_eq_true rfl, Nat.le_of_ble_eq_true rfl⟩) rfl hl.1 rfl (Nat.le_of_ble_eq_true rfl) dL_law_103 ⟨Nat.le_of_ble_eq_true rfl, Nat.le_of_ble_eq_true rfl⟩ (fun σ1 r1 H locs e1 hP hP2 hB1 hS => ?_)
        refine lv_aload_n hx hb dL_law_106 rfl (lv_at hl 2 rfl) ?_
        refine lv_aload_n hx hb dL_law_107 rfl (lv_at hl 0 rfl) ?_
        refine lv_iload_n hx hb dL_law_108 rfl (lv_at hl 3 rfl) ?_
        refine lv_iconst (v := 1) hx hb dL_law_109 (by decide) ?_
        refine lv_iadd hx hb dL_law_110 ?_
        refine va_sld hx hb hX hbl hbA hS (i := ((nI (5 * k)) + 1)) (vin_s 1 (by decide) (by omega) (by omega)) dL_law_111 ?_
        refine lv_aload_n hx hb dL_law_112 rfl (lv_at hl 0 rfl) ?_
        refine lv_iload_n hx hb dL_law_113 rfl (lv_at hl 3 rfl) ?_
        refine lv_iconst (v := 2) hx hb dL_law_114 (by decide) ?_
        refine lv_iadd hx hb dL_law_115 ?_
        refine va_sld hx hb hX hbl hbA hS (i := ((nI (5 * k)) + 2)) (vin_s 2 (by decide) (by omega) (by omega)) dL_law_116 ?_
        refine lm_call (rest := [.int r1]) ⟨hx, hb, hml, hown, hts⟩ hLX hP hP2 hB2 hS (c_m_poke l D q' cA' τ (xs (ix ((nI (5 * k)) + 1))) (xs (ix ((nI (5 * k)) + 2)))) (cwV 2 hts gL_17 rfl rfl rfl hdM_poke ⟨Nat.le_of_ble_eq_true rfl, Nat.le_of_ble_eq_true rfl⟩) rfl hl.1 rfl (Nat.le_of_ble_eq_true rfl) dL_law_117 ⟨Nat.le_of_ble_eq_true rfl, Nat.le_of_ble_eq_true rfl⟩ (fun τ1 r2 H locs e2 hP hP2 hB3 hS => ?_)
        have hPP := eq_poke hR hJ (xs (ix ((nI (5 * k)) + 1))) (xs (ix ((nI (5 * k)) + 2)))
        rw [← e1, ← e2] at hPP
        refine lv_icmp_eq (tgt := 527) hx hb dL_law_120 rfl (fun _ => ?_) (fun h => absurd hPP.1 h)
        exact b527 H locs ls σ1 τ1 hl hP hP2 hB1 hB3 hPP.2.1 hPP.2.2 hS
      rcases Classical.em (x = 1) with s1 | s1
      · refine lv_tableIn (tgt := 125) hx hb dL_law_32 (by rw [s1]; decide) (by rw [s1]; decide) (by rw [s1]; rfl) rfl ?_
        refine lv_aload_n hx hb dL_law_125 rfl (lv_at hl 1 rfl) ?_
        refine lv_aload_n hx hb dL_law_126 rfl (lv_at hl 0 rfl) ?_
        refine lv_iload_n hx hb dL_law_127 rfl (lv_at hl 3 rfl) ?_
        refine lv_iconst (v := 1) hx hb dL_law_128 (by decide) ?_
        refine lv_iadd hx hb dL_law_129 ?_
        refine va_sld hx hb hX hbl hbA hS (i := ((nI (5 * k)) + 1)) (vin_s 1 (by decide) (by omega) (by omega)) dL_law_130 ?_
        refine lv_aload_n hx hb dL_law_131 rfl (lv_at hl 0 rfl) ?_
        refine lv_iload_n hx hb dL_law_132 rfl (lv_at hl 3 rfl) ?_
        refine lv_iconst (v := 2) hx hb dL_law_133 (by decide) ?_
        refine lv_iadd hx hb dL_law_134 ?_
        refine va_sld hx hb hX hbl hbA hS (i := ((nI (5 * k)) + 2)) (vin_s 2 (by decide) (by omega) (by omega)) dL_law_135 ?_
        refine lv_i2l (v := Int32.toInt64 (xs (ix ((nI (5 * k)) + 2)))) hx hb dL_law_136 rfl ?_
        refine lv_bipush (v := 32) hx hb dL_law_137 (by decide) ?_
        refine lv_lshl (v := ((Int32.toInt64 (xs (ix ((nI (5 * k)) + 2)))) <<< ((32 : Int32).toInt64 &&& 63))) hx hb dL_law_139 rfl ?_
        refine lv_aload_n hx hb dL_law_140 rfl (lv_at hl 0 rfl) ?_
        refine lv_iload_n hx hb dL_law_141 rfl (lv_at hl 3 rfl) ?_
        refine lv_iconst (v := 3) hx hb dL_law_142 (by decide) ?_
        refine lv_iadd hx hb dL_law_143 ?_
        refine va_sld hx hb hX hbl hbA hS (i := ((nI (5 * k)) + 3)) (vin_s 3 (by decide) (by omega) (by omega)) dL_law_144 ?_
        refine lv_i2l (v := Int32.toInt64 (xs (ix ((nI (5 * k)) + 3)))) hx hb dL_law_145 rfl ?_
        refine lv_ldc2 (v := 4294967295) hx hb hown (hts _ wL_l18) dL_law_146 ?_
        refine lv_land hx hb dL_law_149 ?_
        refine lv_lor hx hb dL_law_150 ?_
        refine lk_call (rest := []) ⟨hx, hb, hml, hown, hts⟩ hLX hP hP2 hB hS (c_k_fill l D q cA tN σ (xs (ix ((nI (5 * k)) + 1))) (((Int32.toInt64 (xs (ix ((nI (5 * k)) + 2)))) <<< ((32 : Int32).toInt64 &&& 63)) ||| ((Int32.toInt64 (xs (ix ((nI (5 * k)) + 3)))) &&& 4294967295))) (cwV 2 hts gL_20 rfl rfl rfl hdK_fill ⟨Nat.le_of_ble_eq_true rfl, Nat.le_of_ble_eq_true rfl⟩) rfl hl.1 rfl (Nat.le_of_ble_eq_true rfl) dL_law_151 ⟨Nat.le_of_ble_eq_true rfl, Nat.le_of_ble_eq_true rfl⟩ (fun σ1 r1 H locs e1 hP hP2 hB1 hS => ?_)
        refine lv_aload_n hx hb dL_law_154 rfl (lv_at hl 2 rfl) ?_
        refine lv_aload_n hx hb dL_law_155 rfl (lv_at hl 0 rfl) ?_
        refine lv_iload_n hx hb dL_law_156 rfl (lv_at hl 3 rfl) ?_
        refine lv_iconst (v := 1) hx hb dL_law_157 (by decide) ?_
        refine lv_iadd hx hb dL_law_158 ?_
        refine va_sld hx hb hX hbl hbA hS (i := ((nI (5 * k)) + 1)) (vin_s 1 (by decide) (by omega) (by omega)) dL_law_159 ?_
        refine lv_aload_n hx hb dL_law_160 rfl (lv_at hl 0 rfl) ?_
        refine lv_iload_n hx hb dL_law_161 rfl (lv_at hl 3 rfl) ?_
        refine lv_iconst (v := 2) hx hb dL_law_162 (by decide) ?_
        refine lv_iadd hx hb dL_law_163 ?_
        refine va_sld hx hb hX hbl hbA hS (i := ((nI (5 * k)) + 2)) (vin_s 2 (by decide) (by omega) (by omega)) dL_law_164 ?_
        refine lv_i2l (v := Int32.toInt64 (xs (ix ((nI (5 * k)) + 2)))) hx hb dL_law_165 rfl ?_
        refine lv_bipush (v := 32) hx hb dL_law_166 (by decide) ?_
        refine lv_lshl (v := ((Int32.toInt64 (xs (ix ((nI (5 * k)) + 2)))) <<< ((32 : Int32).toInt64 &&& 63))) hx hb dL_law_168 rfl ?_
        refine lv_aload_n hx hb dL_law_169 rfl (lv_at hl 0 rfl) ?_
        refine lv_iload_n hx hb dL_law_170 rfl (lv_at hl 3 rfl) ?_
        refine lv_iconst (v := 3) hx hb dL_law_171 (by decide) ?_
        refine lv_iadd hx hb dL_law_172 ?_
        refine va_sld hx hb hX hbl hbA hS (i := ((nI (5 * k)) + 3)) (vin_s 3 (by decide) (by omega) (by omega)) dL_law_173 ?_
        refine lv_i2l (v := Int32.toInt64 (xs (ix ((nI (5 * k)) + 3)))) hx hb dL_law_174 rfl ?_
        refine lv_ldc2 (v := 4294967295) hx hb hown (hts _ wL_l18) dL_law_175 ?_
        refine lv_land hx hb dL_law_178 ?_
        refine lv_lor hx hb dL_law_179 ?_
        refine lm_call (rest := [.int r1]) ⟨hx, hb, hml, hown, hts⟩ hLX hP hP2 hB2 hS (c_m_fill l D q' cA' τ (xs (ix ((nI (5 * k)) + 1))) (((Int32.toInt64 (xs (ix ((nI (5 * k)) + 2)))) <<< ((32 : Int32).toInt64 &&& 63)) ||| ((Int32.toInt64 (xs (ix ((nI (5 * k)) + 3)))) &&& 4294967295))) (cwV 2 hts gL_24 rfl rfl rfl hdM_fill ⟨Nat.le_of_ble_eq_true rfl, Nat.le_of_ble_eq_true rfl⟩) rfl hl.1 rfl (Nat.le_of_ble_eq_true rfl) dL_law_180 ⟨Nat.le_of_ble_eq_true rfl, Nat.le_of_ble_eq_true rfl⟩ (fun τ1 r2 H locs e2 hP hP2 hB3 hS => ?_)
        have hPP := eq_fill hR hJ (xs (ix ((nI (5 * k)) + 1))) (((Int32.toInt64 (xs (ix ((nI (5 * k)) + 2)))) <<< ((32 : Int32).toInt64 &&& 63)) ||| ((Int32.toInt64 (xs (ix ((nI (5 * k)) + 3)))) &&& 4294967295))
        rw [← e1.1, ← e2.1] at hPP
        refine lv_icmp_eq (tgt := 527) hx hb dL_law_183 rfl (fun _ => ?_) (fun h => absurd hPP.1 h)
        exact b527 H locs ls σ1 τ1 hl hP hP2 hB1 hB3 hPP.2.1 hPP.2.2 hS
      rcases Classical.em (x = 2) with s2 | s2
      · refine lv_tableIn (tgt := 188) hx hb dL_law_32 (by rw [s2]; decide) (by rw [s2]; decide) (by rw [s2]; rfl) rfl ?_
        refine lv_aload_n hx hb dL_law_188 rfl (lv_at hl 1 rfl) ?_
        refine lv_aload_n hx hb dL_law_189 rfl (lv_at hl 0 rfl) ?_
        refine lv_iload_n hx hb dL_law_190 rfl (lv_at hl 3 rfl) ?_
        refine lv_iconst (v := 1) hx hb dL_law_191 (by decide) ?_
        refine lv_iadd hx hb dL_law_192 ?_
        refine va_sld hx hb hX hbl hbA hS (i := ((nI (5 * k)) + 1)) (vin_s 1 (by decide) (by omega) (by omega)) dL_law_193 ?_
        refine lv_aload_n hx hb dL_law_194 rfl (lv_at hl 0 rfl) ?_
        refine lv_iload_n hx hb dL_law_195 rfl (lv_at hl 3 rfl) ?_
        refine lv_iconst (v := 2) hx hb dL_law_196 (by decide) ?_
        refine lv_iadd hx hb dL_law_197 ?_
        refine va_sld hx hb hX hbl hbA hS (i := ((nI (5 * k)) + 2)) (vin_s 2 (by decide) (by omega) (by omega)) dL_law_198 ?_
        refine lv_aload_n hx hb dL_law_199 rfl (lv_at hl 0 rfl) ?_
        refine lv_iload_n hx hb dL_law_200 rfl (lv_at hl 3 rfl) ?_
        refine lv_iconst (v := 3) hx hb dL_law_201 (by decide) ?_
        refine lv_iadd hx hb dL_law_202 ?_
        refine va_sld hx hb hX hbl hbA hS (i := ((nI (5 * k)) + 3)) (vin_s 3 (by decide) (by omega) (by omega)) dL_law_203 ?_
        refine lv_aload_n hx hb dL_law_204 rfl (lv_at hl 0 rfl) ?_
        refine lv_iload_n hx hb dL_law_205 rfl (lv_at hl 3 rfl) ?_
        refine lv_iconst (v := 4) hx hb dL_law_206 (by decide) ?_
        refine lv_iadd hx hb dL_law_207 ?_
        refine va_sld hx hb hX hbl hbA hS (i := ((nI (5 * k)) + 4)) (vin_s 4 (by decide) (by omega) (by omega)) dL_law_208 ?_
        refine lk_call (rest := []) ⟨hx, hb, hml, hown, hts⟩ hLX hP hP2 hB hS (c_k_region l D q cA tN σ (xs (ix ((nI (5 * k)) + 1))) (xs (ix ((nI (5 * k)) + 2))) (xs (ix ((nI (5 * k)) + 3))) (xs (ix ((nI (5 * k)) + 4)))) (cwV 4 hts gL_25 rfl rfl rfl hdK_region ⟨Nat.le_of_ble_eq_true rfl, Nat.le_of_ble_eq_true rfl⟩) rfl hl.1 rfl (Nat.le_of_ble_eq_true rfl) dL_law_209 ⟨Nat.le_of_ble_eq_true rfl, Nat.le_of_ble_eq_true rfl⟩ (fun σ1 r1 H locs e1 hP hP2 hB1 hS => ?_)
        refine lv_aload_n hx hb dL_law_212 rfl (lv_at hl 2 rfl) ?_
        refine lv_aload_n hx hb dL_law_213 rfl (lv_at hl 0 rfl) ?_
        refine lv_iload_n hx hb dL_law_214 rfl (lv_at hl 3 rfl) ?_
        refine lv_iconst (v := 1) hx hb dL_law_215 (by decide) ?_
        refine lv_iadd hx hb dL_law_216 ?_
        refine va_sld hx hb hX hbl hbA hS (i := ((nI (5 * k)) + 1)) (vin_s 1 (by decide) (by omega) (by omega)) dL_law_217 ?_
        refine lv_aload_n hx hb dL_law_218 rfl (lv_at hl 0 rfl) ?_
        refine lv_iload_n hx hb dL_law_219 rfl (lv_at hl 3 rfl) ?_
        refine lv_iconst (v := 2) hx hb dL_law_220 (by decide) ?_
        refine lv_iadd hx hb dL_law_221 ?_
        refine va_sld hx hb hX hbl hbA hS (i := ((nI (5 * k)) + 2)) (vin_s 2 (by decide) (by omega) (by omega)) dL_law_222 ?_
        refine lv_aload_n hx hb dL_law_223 rfl (lv_at hl 0 rfl) ?_
        refine lv_iload_n hx hb dL_law_224 rfl (lv_at hl 3 rfl) ?_
        refine lv_iconst (v := 3) hx hb dL_law_225 (by decide) ?_
        refine lv_iadd hx hb dL_law_226 ?_
        refine va_sld hx hb hX hbl hbA hS (i := ((nI (5 * k)) + 3)) (vin_s 3 (by decide) (by omega) (by omega)) dL_law_227 ?_
        refine lv_aload_n hx hb dL_law_228 rfl (lv_at hl 0 rfl) ?_
        refine lv_iload_n hx hb dL_law_229 rfl (lv_at hl 3 rfl) ?_
        refine lv_iconst (v := 4) hx hb dL_law_230 (by decide) ?_
        refine lv_iadd hx hb dL_law_231 ?_
        refine va_sld hx hb hX hbl hbA hS (i := ((nI (5 * k)) + 4)) (vin_s 4 (by decide) (by omega) (by omega)) dL_law_232 ?_
        refine lm_call (rest := [.int r1]) ⟨hx, hb, hml, hown, hts⟩ hLX hP hP2 hB2 hS (c_m_region l D q' cA' τ (xs (ix ((nI (5 * k)) + 1))) (xs (ix ((nI (5 * k)) + 2))) (xs (ix ((nI (5 * k)) + 3))) (xs (ix ((nI (5 * k)) + 4)))) (cwV 4 hts gL_29 rfl rfl rfl hdM_region ⟨Nat.le_of_ble_eq_true rfl, Nat.le_of_ble_eq_true rfl⟩) rfl hl.1 rfl (Nat.le_of_ble_eq_true rfl) dL_law_233 ⟨Nat.le_of_ble_eq_true rfl, Nat.le_of_ble_eq_true rfl⟩ (fun τ1 r2 H locs e2 hP hP2 hB3 hS => ?_)
        have hPP := eq_region hR hJ (xs (ix ((nI (5 * k)) + 1))) (xs (ix ((nI (5 * k)) + 2))) (xs (ix ((nI (5 * k)) + 3))) (xs (ix ((nI (5 * k)) + 4)))
        rw [← e1.1, ← e2.1] at hPP
        refine lv_icmp_eq (tgt := 527) hx hb dL_law_236 rfl (fun _ => ?_) (fun h => absurd hPP.1 h)
        exact b527 H locs ls σ1 τ1 hl hP hP2 hB1 hB3 hPP.2.1 hPP.2.2 hS
      rcases Classical.em (x = 3) with s3 | s3
      · refine lv_tableIn (tgt := 241) hx hb dL_law_32 (by rw [s3]; decide) (by rw [s3]; decide) (by rw [s3]; rfl) rfl ?_
        by_cases hz : (xs (ix ((nI (5 * k)) + 1))) = 0
        ·
          refine lv_aload_n hx hb dL_law_241 rfl (lv_at hl 1 rfl) ?_
          refine lv_aload_n hx hb dL_law_242 rfl (lv_at hl 0 rfl) ?_
          refine lv_iload_n hx hb dL_law_243 rfl (lv_at hl 3 rfl) ?_
          refine lv_iconst (v := 1) hx hb dL_law_244 (by decide) ?_
          refine lv_iadd hx hb dL_law_245 ?_
          refine va_sld hx hb hX hbl hbA hS (i := ((nI (5 * k)) + 1)) (vin_s 1 (by decide) (by omega) (by omega)) dL_law_246 ?_
          refine lv_if_eq (tgt := 254) hx hb dL_law_247 rfl (fun _ => ?_) (fun h => absurd hz h)
          refine lv_iconst (v := 0) hx hb dL_law_254 (by decide) ?_
          refine lv_aload_n hx hb dL_law_255 rfl (lv_at hl 0 rfl) ?_
          refine lv_iload_n hx hb dL_law_256 rfl (lv_at hl 3 rfl) ?_
          refine lv_iconst (v := 2) hx hb dL_law_257 (by decide) ?_
          refine lv_iadd hx hb dL_law_258 ?_
          refine va_sld hx hb hX hbl hbA hS (i := ((nI (5 * k)) + 2)) (vin_s 2 (by decide) (by omega) (by omega)) dL_law_259 ?_
          refine lv_aload_n hx hb dL_law_260 rfl (lv_at hl 0 rfl) ?_
          refine lv_iload_n hx hb dL_law_261 rfl (lv_at hl 3 rfl) ?_
          refine lv_iconst (v := 3) hx hb dL_law_262 (by decide) ?_
          refine lv_iadd hx hb dL_law_263 ?_
          refine va_sld hx hb hX hbl hbA hS (i := ((nI (5 * k)) + 3)) (vin_s 3 (by decide) (by omega) (by omega)) dL_law_264 ?_
          refine lv_aload_n hx hb dL_law_265 rfl (lv_at hl 0 rfl) ?_
          refine lv_iload_n hx hb dL_law_266 rfl (lv_at hl 3 rfl) ?_
          refine lv_iconst (v := 4) hx hb dL_law_267 (by decide) ?_
          refine lv_iadd hx hb dL_law_268 ?_
          refine va_sld hx hb hX hbl hbA hS (i := ((nI (5 * k)) + 4)) (vin_s 4 (by decide) (by omega) (by omega)) dL_law_269 ?_
          refine lk_call (rest := []) ⟨hx, hb, hml, hown, hts⟩ hLX hP hP2 hB hS (c_k_settings l D q cA tN σ 0 (xs (ix ((nI (5 * k)) + 2))) (xs (ix ((nI (5 * k)) + 3))) (xs (ix ((nI (5 * k)) + 4))) (by decide)) (cwV 4 hts gL_30 rfl rfl rfl hdK_settings ⟨Nat.le_of_ble_eq_true rfl, Nat.le_of_ble_eq_true rfl⟩) rfl hl.1 rfl (Nat.le_of_ble_eq_true rfl) dL_law_270 ⟨Nat.le_of_ble_eq_true rfl, Nat.le_of_ble_eq_true rfl⟩ (fun σ1 r1 H locs e1 hP hP2 hB1 hS => ?_)
          refine lv_aload_n hx hb dL_law_273 rfl (lv_at hl 2 rfl) ?_
          refine lv_aload_n hx hb dL_law_274 rfl (lv_at hl 0 rfl) ?_
          refine lv_iload_n hx hb dL_law_275 rfl (lv_at hl 3 rfl) ?_
          refine lv_iconst (v := 1) hx hb dL_law_276 (by decide) ?_
          refine lv_iadd hx hb dL_law_277 ?_
          refine va_sld hx hb hX hbl hbA hS (i := ((nI (5 * k)) + 1)) (vin_s 1 (by decide) (by omega) (by omega)) dL_law_278 ?_
          refine lv_if_eq (tgt := 286) hx hb dL_law_279 rfl (fun _ => ?_) (fun h => absurd hz h)
          refine lv_iconst (v := 0) hx hb dL_law_286 (by decide) ?_
          refine lv_aload_n hx hb dL_law_287 rfl (lv_at hl 0 rfl) ?_
          refine lv_iload_n hx hb dL_law_288 rfl (lv_at hl 3 rfl) ?_
          refine lv_iconst (v := 2) hx hb dL_law_289 (by decide) ?_
          refine lv_iadd hx hb dL_law_290 ?_
          refine va_sld hx hb hX hbl hbA hS (i := ((nI (5 * k)) + 2)) (vin_s 2 (by decide) (by omega) (by omega)) dL_law_291 ?_
          refine lv_aload_n hx hb dL_law_292 rfl (lv_at hl 0 rfl) ?_
          refine lv_iload_n hx hb dL_law_293 rfl (lv_at hl 3 rfl) ?_
          refine lv_iconst (v := 3) hx hb dL_law_294 (by decide) ?_
          refine lv_iadd hx hb dL_law_295 ?_
          refine va_sld hx hb hX hbl hbA hS (i := ((nI (5 * k)) + 3)) (vin_s 3 (by decide) (by omega) (by omega)) dL_law_296 ?_
          refine lv_aload_n hx hb dL_law_297 rfl (lv_at hl 0 rfl) ?_
          refine lv_iload_n hx hb dL_law_298 rfl (lv_at hl 3 rfl) ?_
          refine lv_iconst (v := 4) hx hb dL_law_299 (by decide) ?_
          refine lv_iadd hx hb dL_law_300 ?_
          refine va_sld hx hb hX hbl hbA hS (i := ((nI (5 * k)) + 4)) (vin_s 4 (by decide) (by omega) (by omega)) dL_law_301 ?_
          refine lm_call (rest := [.int r1]) ⟨hx, hb, hml, hown, hts⟩ hLX hP hP2 hB2 hS (c_m_settings l D q' cA' τ 0 (xs (ix ((nI (5 * k)) + 2))) (xs (ix ((nI (5 * k)) + 3))) (xs (ix ((nI (5 * k)) + 4))) (by decide)) (cwV 4 hts gL_34 rfl rfl rfl hdM_settings ⟨Nat.le_of_ble_eq_true rfl, Nat.le_of_ble_eq_true rfl⟩) rfl hl.1 rfl (Nat.le_of_ble_eq_true rfl) dL_law_302 ⟨Nat.le_of_ble_eq_true rfl, Nat.le_of_ble_eq_true rfl⟩ (fun τ1 r2 H locs e2 hP hP2 hB3 hS => ?_)
          have hPP := eq_settings hR hJ 0 (xs (ix ((nI (5 * k)) + 2))) (xs (ix ((nI (5 * k)) + 3))) (xs (ix ((nI (5 * k)) + 4)))
          rw [← e1.1, ← e2.1] at hPP
          refine lv_icmp_eq (tgt := 527) hx hb dL_law_305 rfl (fun _ => ?_) (fun h => absurd hPP.1 h)
          exact b527 H locs ls σ1 τ1 hl hP hP2 hB1 hB3 hPP.2.1 hPP.2.2 hS
        ·
          refine lv_aload_n hx hb dL_law_241 rfl (lv_at hl 1 rfl) ?_
          refine lv_aload_n hx hb dL_law_242 rfl (lv_at hl 0 rfl) ?_
          refine lv_iload_n hx hb dL_law_243 rfl (lv_at hl 3 rfl) ?_
          refine lv_iconst (v := 1) hx hb dL_law_244 (by decide) ?_
          refine lv_iadd hx hb dL_law_245 ?_
          refine va_sld hx hb hX hbl hbA hS (i := ((nI (5 * k)) + 1)) (vin_s 1 (by decide) (by omega) (by omega)) dL_law_246 ?_
          refine lv_if_eq (tgt := 254) hx hb dL_law_247 rfl (fun h => absurd h hz) (fun _ => ?_)
          refine lv_iconst (v := 1) hx hb dL_law_250 (by decide) ?_
          refine lv_goto (tgt := 255) hx hb dL_law_251 rfl ?_
          refine lv_aload_n hx hb dL_law_255 rfl (lv_at hl 0 rfl) ?_
          refine lv_iload_n hx hb dL_law_256 rfl (lv_at hl 3 rfl) ?_
          refine lv_iconst (v := 2) hx hb dL_law_257 (by decide) ?_
          refine lv_iadd hx hb dL_law_258 ?_
          refine va_sld hx hb hX hbl hbA hS (i := ((nI (5 * k)) + 2)) (vin_s 2 (by decide) (by omega) (by omega)) dL_law_259 ?_
          refine lv_aload_n hx hb dL_law_260 rfl (lv_at hl 0 rfl) ?_
          refine lv_iload_n hx hb dL_law_261 rfl (lv_at hl 3 rfl) ?_
          refine lv_iconst (v := 3) hx hb dL_law_262 (by decide) ?_
          refine lv_iadd hx hb dL_law_263 ?_
          refine va_sld hx hb hX hbl hbA hS (i := ((nI (5 * k)) + 3)) (vin_s 3 (by decide) (by omega) (by omega)) dL_law_264 ?_
          refine lv_aload_n hx hb dL_law_265 rfl (lv_at hl 0 rfl) ?_
          refine lv_iload_n hx hb dL_law_266 rfl (lv_at hl 3 rfl) ?_
          refine lv_iconst (v := 4) hx hb dL_law_267 (by decide) ?_
          refine lv_iadd hx hb dL_law_268 ?_
          refine va_sld hx hb hX hbl hbA hS (i := ((nI (5 * k)) + 4)) (vin_s 4 (by decide) (by omega) (by omega)) dL_law_269 ?_
          refine lk_call (rest := []) ⟨hx, hb, hml, hown, hts⟩ hLX hP hP2 hB hS (c_k_settings l D q cA tN σ 1 (xs (ix ((nI (5 * k)) + 2))) (xs (ix ((nI (5 * k)) + 3))) (xs (ix ((nI (5 * k)) + 4))) (by decide)) (cwV 4 hts gL_30 rfl rfl rfl hdK_settings ⟨Nat.le_of_ble_eq_true rfl, Nat.le_of_ble_eq_true rfl⟩) rfl hl.1 rfl (Nat.le_of_ble_eq_true rfl) dL_law_270 ⟨Nat.le_of_ble_eq_true rfl, Nat.le_of_ble_eq_true rfl⟩ (fun σ1 r1 H locs e1 hP hP2 hB1 hS => ?_)
          refine lv_aload_n hx hb dL_law_273 rfl (lv_at hl 2 rfl) ?_
          refine lv_aload_n hx hb dL_law_274 rfl (lv_at hl 0 rfl) ?_
          refine lv_iload_n hx hb dL_law_275 rfl (lv_at hl 3 rfl) ?_
          refine lv_iconst (v := 1) hx hb dL_law_276 (by decide) ?_
          refine lv_iadd hx hb dL_law_277 ?_
          refine va_sld hx hb hX hbl hbA hS (i := ((nI (5 * k)) + 1)) (vin_s 1 (by decide) (by omega) (by omega)) dL_law_278 ?_
          refine lv_if_eq (tgt := 286) hx hb dL_law_279 rfl (fun h => absurd h hz) (fun _ => ?_)
          refine lv_iconst (v := 1) hx hb dL_law_282 (by decide) ?_
          refine lv_goto (tgt := 287) hx hb dL_law_283 rfl ?_
          refine lv_aload_n hx hb dL_law_287 rfl (lv_at hl 0 rfl) ?_
          refine lv_iload_n hx hb dL_law_288 rfl (lv_at hl 3 rfl) ?_
          refine lv_iconst (v := 2) hx hb dL_law_289 (by decide) ?_
          refine lv_iadd hx hb dL_law_290 ?_
          refine va_sld hx hb hX hbl hbA hS (i := ((nI (5 * k)) + 2)) (vin_s 2 (by decide) (by omega) (by omega)) dL_law_291 ?_
          refine lv_aload_n hx hb dL_law_292 rfl (lv_at hl 0 rfl) ?_
          refine lv_iload_n hx hb dL_law_293 rfl (lv_at hl 3 rfl) ?_
          refine lv_iconst (v := 3) hx hb dL_law_294 (by decide) ?_
          refine lv_iadd hx hb dL_law_295 ?_
          refine va_sld hx hb hX hbl hbA hS (i := ((nI (5 * k)) + 3)) (vin_s 3 (by decide) (by omega) (by omega)) dL_law_296 ?_
          refine lv_aload_n hx hb dL_law_297 rfl (lv_at hl 0 rfl) ?_
          refine lv_iload_n hx hb dL_law_298 rfl (lv_at hl 3 rfl) ?_
          refine lv_iconst (v := 4) hx hb dL_law_299 (by decide) ?_
          refine lv_iadd hx hb dL_law_300 ?_
          refine va_sld hx hb hX hbl hbA hS (i := ((nI (5 * k)) + 4)) (vin_s 4 (by decide) (by omega) (by omega)) dL_law_301 ?_
          refine lm_call (rest := [.int r1]) ⟨hx, hb, hml, hown, hts⟩ hLX hP hP2 hB2 hS (c_m_settings l D q' cA' τ 1 (xs (ix ((nI (5 * k)) + 2))) (xs (ix ((nI (5 * k)) + 3))) (xs (ix ((nI (5 * k)) + 4))) (by decide)) (cwV 4 hts gL_34 rfl rfl rfl hdM_settings ⟨Nat.le_of_ble_eq_true rfl, Nat.le_of_ble_eq_true rfl⟩) rfl hl.1 rfl (Nat.le_of_ble_eq_true rfl) dL_law_302 ⟨Nat.le_of_ble_eq_true rfl, Nat.le_of_ble_eq_true rfl⟩ (fun τ1 r2 H locs e2 hP hP2 hB3 hS => ?_)
          have hPP := eq_settings hR hJ 1 (xs (ix ((nI (5 * k)) + 2))) (xs (ix ((nI (5 * k)) + 3))) (xs (ix ((nI (5 * k)) + 4)))
          rw [← e1.1, ← e2.1] at hPP
          refine lv_icmp_eq (tgt := 527) hx hb dL_law_305 rfl (fun _ => ?_) (fun h => absurd hPP.1 h)
          exact b527 H locs ls σ1 τ1 hl hP hP2 hB1 hB3 hPP.2.1 hPP.2.2 hS
      rcases Classical.em (x = 4) with s4 | s4
      · refine lv_tableIn (tgt := 310) hx hb dL_law_32 (by rw [s4]; decide) (by rw [s4]; decide) (by rw [s4]; rfl) rfl ?_
        by_cases hz : (xs (ix ((nI (5 * k)) + 2))) = 0
        ·
          refine lv_aload_n hx hb dL_law_310 rfl (lv_at hl 1 rfl) ?_
          refine lv_aload_n hx hb dL_law_311 rfl (lv_at hl 0 rfl) ?_
          refine lv_iload_n hx hb dL_law_312 rfl (lv_at hl 3 rfl) ?_
          refine lv_iconst (v := 1) hx hb dL_law_313 (by decide) ?_
          refine lv_iadd hx hb dL_law_314 ?_
          refine va_sld hx hb hX hbl hbA hS (i := ((nI (5 * k)) + 1)) (vin_s 1 (by decide) (by omega) (by omega)) dL_law_315 ?_
          refine lv_aload_n hx hb dL_law_316 rfl (lv_at hl 0 rfl) ?_
          refine lv_iload_n hx hb dL_law_317 rfl (lv_at hl 3 rfl) ?_
          refine lv_iconst (v := 2) hx hb dL_law_318 (by decide) ?_
          refine lv_iadd hx hb dL_law_319 ?_
          refine va_sld hx hb hX hbl hbA hS (i := ((nI (5 * k)) + 2)) (vin_s 2 (by decide) (by omega) (by omega)) dL_law_320 ?_
          refine lv_if_eq (tgt := 328) hx hb dL_law_321 rfl (fun _ => ?_) (fun h => absurd hz h)
          refine lv_iconst (v := 0) hx hb dL_law_328 (by decide) ?_
          refine lv_aload_n hx hb dL_law_329 rfl (lv_at hl 0 rfl) ?_
          refine lv_iload_n hx hb dL_law_330 rfl (lv_at hl 3 rfl) ?_
          refine lv_iconst (v := 3) hx hb dL_law_331 (by decide) ?_
          refine lv_iadd hx hb dL_law_332 ?_
          refine va_sld hx hb hX hbl hbA hS (i := ((nI (5 * k)) + 3)) (vin_s 3 (by decide) (by omega) (by omega)) dL_law_333 ?_
          refine lv_aload_n hx hb dL_law_334 rfl (lv_at hl 0 rfl) ?_
          refine lv_iload_n hx hb dL_law_335 rfl (lv_at hl 3 rfl) ?_
          refine lv_iconst (v := 4) hx hb dL_law_336 (by decide) ?_
          refine lv_iadd hx hb dL_law_337 ?_
          refine va_sld hx hb hX hbl hbA hS (i := ((nI (5 * k)) + 4)) (vin_s 4 (by decide) (by omega) (by omega)) dL_law_338 ?_
          refine lk_call (rest := []) ⟨hx, hb, hml, hown, hts⟩ hLX hP hP2 hB hS (c_k_begin l D q cA tN σ (xs (ix ((nI (5 * k)) + 1))) 0 (xs (ix ((nI (5 * k)) + 3))) (xs (ix ((nI (5 * k)) + 4))) (by decide)) (cwV 4 hts gL_35 rfl rfl rfl hdK_begin ⟨Nat.le_of_ble_eq_true rfl, Nat.le_of_ble_eq_true rfl⟩) rfl hl.1 rfl (Nat.le_of_ble_eq_true rfl) dL_law_339 ⟨Nat.le_of_ble_eq_true rfl, Nat.le_of_ble_eq_true rfl⟩ (fun σ1 r1 H locs e1 hP hP2 hB1 hS => ?_)
          refine lv_aload_n hx hb dL_law_342 rfl (lv_at hl 2 rfl) ?_
          refine lv_aload_n hx hb dL_law_343 rfl (lv_at hl 0 rfl) ?_
          refine lv_iload_n hx hb dL_law_344 rfl (lv_at hl 3 rfl) ?_
          refine lv_iconst (v := 1) hx hb dL_law_345 (by decide) ?_
          refine lv_iadd hx hb dL_law_346 ?_
          refine va_sld hx hb hX hbl hbA hS (i := ((nI (5 * k)) + 1)) (vin_s 1 (by decide) (by omega) (by omega)) dL_law_347 ?_
          refine lv_aload_n hx hb dL_law_348 rfl (lv_at hl 0 rfl) ?_
          refine lv_iload_n hx hb dL_law_349 rfl (lv_at hl 3 rfl) ?_
          refine lv_iconst (v := 2) hx hb dL_law_350 (by decide) ?_
          refine lv_iadd hx hb dL_law_351 ?_
          refine va_sld hx hb hX hbl hbA hS (i := ((nI (5 * k)) + 2)) (vin_s 2 (by decide) (by omega) (by omega)) dL_law_352 ?_
          refine lv_if_eq (tgt := 360) hx hb dL_law_353 rfl (fun _ => ?_) (fun h => absurd hz h)
          refine lv_iconst (v := 0) hx hb dL_law_360 (by decide) ?_
          refine lv_aload_n hx hb dL_law_361 rfl (lv_at hl 0 rfl) ?_
          refine lv_iload_n hx hb dL_law_362 rfl (lv_at hl 3 rfl) ?_
          refine lv_iconst (v := 3) hx hb dL_law_363 (by decide) ?_
          refine lv_iadd hx hb dL_law_364 ?_
          refine va_sld hx hb hX hbl hbA hS (i := ((nI (5 * k)) + 3)) (vin_s 3 (by decide) (by omega) (by omega)) dL_law_365 ?_
          refine lv_aload_n hx hb dL_law_366 rfl (lv_at hl 0 rfl) ?_
          refine lv_iload_n hx hb dL_law_367 rfl (lv_at hl 3 rfl) ?_
          refine lv_iconst (v := 4) hx hb dL_law_368 (by decide) ?_
          refine lv_iadd hx hb dL_law_369 ?_
          refine va_sld hx hb hX hbl hbA hS (i := ((nI (5 * k)) + 4)) (vin_s 4 (by decide) (by omega) (by omega)) dL_law_370 ?_
          refine lm_call (rest := [.int r1]) ⟨hx, hb, hml, hown, hts⟩ hLX hP hP2 hB2 hS (c_m_begin l D q' cA' τ (xs (ix ((nI (5 * k)) + 1))) 0 (xs (ix ((nI (5 * k)) + 3))) (xs (ix ((nI (5 * k)) + 4))) (by decide)) (cwV 4 hts gL_39 rfl rfl rfl hdM_begin ⟨Nat.le_of_ble_eq_true rfl, Nat.le_of_ble_eq_true rfl⟩) rfl hl.1 rfl (Nat.le_of_ble_eq_true rfl) dL_law_371 ⟨Nat.le_of_ble_eq_true rfl, Nat.le_of_ble_eq_true rfl⟩ (fun τ1 r2 H locs e2 hP hP2 hB3 hS => ?_)
          have hPP := eq_begin hR hJ (xs (ix ((nI (5 * k)) + 1))) 0 (xs (ix ((nI (5 * k)) + 3))) (xs (ix ((nI (5 * k)) + 4))) (by decide)
          rw [← e1.1, ← e2.1] at hPP
          refine lv_icmp_eq (tgt := 527) hx hb dL_law_374 rfl (fun _ => ?_) (fun h => absurd hPP.1 h)
          exact b527 H locs ls σ1 τ1 hl hP hP2 hB1 hB3 hPP.2.1 hPP.2.2 hS
        ·
          refine lv_aload_n hx hb dL_law_310 rfl (lv_at hl 1 rfl) ?_
          refine lv_aload_n hx hb dL_law_311 rfl (lv_at hl 0 rfl) ?_
          refine lv_iload_n hx hb dL_law_312 rfl (lv_at hl 3 rfl) ?_
          refine lv_iconst (v := 1) hx hb dL_law_313 (by decide) ?_
          refine lv_iadd hx hb dL_law_314 ?_
          refine va_sld hx hb hX hbl hbA hS (i := ((nI (5 * k)) + 1)) (vin_s 1 (by decide) (by omega) (by omega)) dL_law_315 ?_
          refine lv_aload_n hx hb dL_law_316 rfl (lv_at hl 0 rfl) ?_
          refine lv_iload_n hx hb dL_law_317 rfl (lv_at hl 3 rfl) ?_
          refine lv_iconst (v := 2) hx hb dL_law_318 (by decide) ?_
          refine lv_iadd hx hb dL_law_319 ?_
          refine va_sld hx hb hX hbl hbA hS (i := ((nI (5 * k)) + 2)) (vin_s 2 (by decide) (by omega) (by omega)) dL_law_320 ?_
          refine lv_if_eq (tgt := 328) hx hb dL_law_321 rfl (fun h => absurd h hz) (fun _ => ?_)
          refine lv_iconst (v := 1) hx hb dL_law_324 (by decide) ?_
          refine lv_goto (tgt := 329) hx hb dL_law_325 rfl ?_
          refine lv_aload_n hx hb dL_law_329 rfl (lv_at hl 0 rfl) ?_
          refine lv_iload_n hx hb dL_law_330 rfl (lv_at hl 3 rfl) ?_
          refine lv_iconst (v := 3) hx hb dL_law_331 (by decide) ?_
          refine lv_iadd hx hb dL_law_332 ?_
          refine va_sld hx hb hX hbl hbA hS (i := ((nI (5 * k)) + 3)) (vin_s 3 (by decide) (by omega) (by omega)) dL_law_333 ?_
          refine lv_aload_n hx hb dL_law_334 rfl (lv_at hl 0 rfl) ?_
          refine lv_iload_n hx hb dL_law_335 rfl (lv_at hl 3 rfl) ?_
          refine lv_iconst (v := 4) hx hb dL_law_336 (by decide) ?_
          refine lv_iadd hx hb dL_law_337 ?_
          refine va_sld hx hb hX hbl hbA hS (i := ((nI (5 * k)) + 4)) (vin_s 4 (by decide) (by omega) (by omega)) dL_law_338 ?_
          refine lk_call (rest := []) ⟨hx, hb, hml, hown, hts⟩ hLX hP hP2 hB hS (c_k_begin l D q cA tN σ (xs (ix ((nI (5 * k)) + 1))) 1 (xs (ix ((nI (5 * k)) + 3))) (xs (ix ((nI (5 * k)) + 4))) (by decide)) (cwV 4 hts gL_35 rfl rfl rfl hdK_begin ⟨Nat.le_of_ble_eq_true rfl, Nat.le_of_ble_eq_true rfl⟩) rfl hl.1 rfl (Nat.le_of_ble_eq_true rfl) dL_law_339 ⟨Nat.le_of_ble_eq_true rfl, Nat.le_of_ble_eq_true rfl⟩ (fun σ1 r1 H locs e1 hP hP2 hB1 hS => ?_)
          refine lv_aload_n hx hb dL_law_342 rfl (lv_at hl 2 rfl) ?_
          refine lv_aload_n hx hb dL_law_343 rfl (lv_at hl 0 rfl) ?_
          refine lv_iload_n hx hb dL_law_344 rfl (lv_at hl 3 rfl) ?_
          refine lv_iconst (v := 1) hx hb dL_law_345 (by decide) ?_
          refine lv_iadd hx hb dL_law_346 ?_
          refine va_sld hx hb hX hbl hbA hS (i := ((nI (5 * k)) + 1)) (vin_s 1 (by decide) (by omega) (by omega)) dL_law_347 ?_
          refine lv_aload_n hx hb dL_law_348 rfl (lv_at hl 0 rfl) ?_
          refine lv_iload_n hx hb dL_law_349 rfl (lv_at hl 3 rfl) ?_
          refine lv_iconst (v := 2) hx hb dL_law_350 (by decide) ?_
          refine lv_iadd hx hb dL_law_351 ?_
          refine va_sld hx hb hX hbl hbA hS (i := ((nI (5 * k)) + 2)) (vin_s 2 (by decide) (by omega) (by omega)) dL_law_352 ?_
          refine lv_if_eq (tgt := 360) hx hb dL_law_353 rfl (fun h => absurd h hz) (fun _ => ?_)
          refine lv_iconst (v := 1) hx hb dL_law_356 (by decide) ?_
          refine lv_goto (tgt := 361) hx hb dL_law_357 rfl ?_
          refine lv_aload_n hx hb dL_law_361 rfl (lv_at hl 0 rfl) ?_
          refine lv_iload_n hx hb dL_law_362 rfl (lv_at hl 3 rfl) ?_
          refine lv_iconst (v := 3) hx hb dL_law_363 (by decide) ?_
          refine lv_iadd hx hb dL_law_364 ?_
          refine va_sld hx hb hX hbl hbA hS (i := ((nI (5 * k)) + 3)) (vin_s 3 (by decide) (by omega) (by omega)) dL_law_365 ?_
          refine lv_aload_n hx hb dL_law_366 rfl (lv_at hl 0 rfl) ?_
          refine lv_iload_n hx hb dL_law_367 rfl (lv_at hl 3 rfl) ?_
          refine lv_iconst (v := 4) hx hb dL_law_368 (by decide) ?_
          refine lv_iadd hx hb dL_law_369 ?_
          refine va_sld hx hb hX hbl hbA hS (i := ((nI (5 * k)) + 4)) (vin_s 4 (by decide) (by omega) (by omega)) dL_law_370 ?_
          refine lm_call (rest := [.int r1]) ⟨hx, hb, hml, hown, hts⟩ hLX hP hP2 hB2 hS (c_m_begin l D q' cA' τ (xs (ix ((nI (5 * k)) + 1))) 1 (xs (ix ((nI (5 * k)) + 3))) (xs (ix ((nI (5 * k)) + 4))) (by decide)) (cwV 4 hts gL_39 rfl rfl rfl hdM_begin ⟨Nat.le_of_ble_eq_true rfl, Nat.le_of_ble_eq_true rfl⟩) rfl hl.1 rfl (Nat.le_of_ble_eq_true rfl) dL_law_371 ⟨Nat.le_of_ble_eq_true rfl, Nat.le_of_ble_eq_true rfl⟩ (fun τ1 r2 H locs e2 hP hP2 hB3 hS => ?_)
          have hPP := eq_begin hR hJ (xs (ix ((nI (5 * k)) + 1))) 1 (xs (ix ((nI (5 * k)) + 3))) (xs (ix ((nI (5 * k)) + 4))) (by decide)
          rw [← e1.1, ← e2.1] at hPP
          refine lv_icmp_eq (tgt := 527) hx hb dL_law_374 rfl (fun _ => ?_) (fun h => absurd hPP.1 h)
          exact b527 H locs ls σ1 τ1 hl hP hP2 hB1 hB3 hPP.2.1 hPP.2.2 hS
      rcases Classical.em (x = 5) with s5 | s5
      · refine lv_tableIn (tgt := 379) hx hb dL_law_32 (by rw [s5]; decide) (by rw [s5]; decide) (by rw [s5]; rfl) rfl ?_
        refine lv_aload_n hx hb dL_law_379 rfl (lv_at hl 1 rfl) ?_
        refine lv_aload_n hx hb dL_law_380 rfl (lv_at hl 0 rfl) ?_
        refine lv_iload_n hx hb dL_law_381 rfl (lv_at hl 3 rfl) ?_
        refine lv_iconst (v := 1) hx hb dL_law_382 (by decide) ?_
        refine lv_iadd hx hb dL_law_383 ?_
        refine va_sld hx hb hX hbl hbA hS (i := ((nI (5 * k)) + 1)) (vin_s 1 (by decide) (by omega) (by omega)) dL_law_384 ?_
        refine lv_aload_n hx hb dL_law_385 rfl (lv_at hl 0 rfl) ?_
        refine lv_iload_n hx hb dL_law_386 rfl (lv_at hl 3 rfl) ?_
        refine lv_iconst (v := 2) hx hb dL_law_387 (by decide) ?_
        refine lv_iadd hx hb dL_law_388 ?_
        refine va_sld hx hb hX hbl hbA hS (i := ((nI (5 * k)) + 2)) (vin_s 2 (by decide) (by omega) (by omega)) dL_law_389 ?_
        refine lk_call (rest := []) ⟨hx, hb, hml, hown, hts⟩ hLX hP hP2 hB hS (c_k_set l D q cA tN σ (xs (ix ((nI (5 * k)) + 1))) (xs (ix ((nI (5 * k)) + 2)))) (cwV 2 hts gL_40 rfl rfl rfl hdK_set ⟨Nat.le_of_ble_eq_true rfl, Nat.le_of_ble_eq_true rfl⟩) rfl hl.1 rfl (Nat.le_of_ble_eq_true rfl) dL_law_390 ⟨Nat.le_of_ble_eq_true rfl, Nat.le_of_ble_eq_true rfl⟩ (fun σ1 r1 H locs e1 hP hP2 hB1 hS => ?_)
        refine lv_aload_n hx hb dL_law_393 rfl (lv_at hl 2 rfl) ?_
        refine lv_aload_n hx hb dL_law_394 rfl (lv_at hl 0 rfl) ?_
        refine lv_iload_n hx hb dL_law_395 rfl (lv_at hl 3 rfl) ?_
        refine lv_iconst (v := 1) hx hb dL_law_396 (by decide) ?_
        refine lv_iadd hx hb dL_law_397 ?_
        refine va_sld hx hb hX hbl hbA hS (i := ((nI (5 * k)) + 1)) (vin_s 1 (by decide) (by omega) (by omega)) dL_law_398 ?_
        refine lv_aload_n hx hb dL_law_399 rfl (lv_at hl 0 rfl) ?_
        refine lv_iload_n hx hb dL_law_400 rfl (lv_at hl 3 rfl) ?_
        refine lv_iconst (v := 2) hx hb dL_law_401 (by decide) ?_
        refine lv_iadd hx hb dL_law_402 ?_
        refine va_sld hx hb hX hbl hbA hS (i := ((nI (5 * k)) + 2)) (vin_s 2 (by decide) (by omega) (by omega)) dL_law_403 ?_
        refine lm_call (rest := [.int r1]) ⟨hx, hb, hml, hown, hts⟩ hLX hP hP2 hB2 hS (c_m_set l D q' cA' τ (xs (ix ((nI (5 * k)) + 1))) (xs (ix ((nI (5 * k)) + 2)))) (cwV 2 hts gL_44 rfl rfl rfl hdM_set ⟨Nat.le_of_ble_eq_true rfl, Nat.le_of_ble_eq_true rfl⟩) rfl hl.1 rfl (Nat.le_of_ble_eq_true rfl) dL_law_404 ⟨Nat.le_of_ble_eq_true rfl, Nat.le_of_ble_eq_true rfl⟩ (fun τ1 r2 H locs e2 hP hP2 hB3 hS => ?_)
        have hPP := eq_set hR hJ (xs (ix ((nI (5 * k)) + 1))) (xs (ix ((nI (5 * k)) + 2)))
        rw [← e1.1, ← e2.1] at hPP
        refine lv_icmp_eq (tgt := 527) hx hb dL_law_407 rfl (fun _ => ?_) (fun h => absurd hPP.1 h)
        exact b527 H locs ls σ1 τ1 hl hP hP2 hB1 hB3 hPP.2.1 hPP.2.2 hS
      rcases Classical.em (x = 6) with s6 | s6
      · refine lv_tableIn (tgt := 412) hx hb dL_law_32 (by rw [s6]; decide) (by rw [s6]; decide) (by rw [s6]; rfl) rfl ?_
        refine lv_aload_n hx hb dL_law_412 rfl (lv_at hl 1 rfl) ?_
        refine lv_aload_n hx hb dL_law_413 rfl (lv_at hl 0 rfl) ?_
        refine lv_iload_n hx hb dL_law_414 rfl (lv_at hl 3 rfl) ?_
        refine lv_iconst (v := 1) hx hb dL_law_415 (by decide) ?_
        refine lv_iadd hx hb dL_law_416 ?_
        refine va_sld hx hb hX hbl hbA hS (i := ((nI (5 * k)) + 1)) (vin_s 1 (by decide) (by omega) (by omega)) dL_law_417 ?_
        refine lk_call (rest := []) ⟨hx, hb, hml, hown, hts⟩ hLX hP hP2 hB hS (c_k_interrupt l D q cA tN σ (xs (ix ((nI (5 * k)) + 1)))) (cwV 1 hts gL_45 rfl rfl rfl hdK_interrupt ⟨Nat.le_of_ble_eq_true rfl, Nat.le_of_ble_eq_true rfl⟩) rfl hl.1 rfl (Nat.le_of_ble_eq_true rfl) dL_law_418 ⟨Nat.le_of_ble_eq_true rfl, Nat.le_of_ble_eq_true rfl⟩ (fun σ1 r1 H locs e1 hP hP2 hB1 hS => ?_)
        refine lv_aload_n hx hb dL_law_421 rfl (lv_at hl 2 rfl) ?_
        refine lv_aload_n hx hb dL_law_422 rfl (lv_at hl 0 rfl) ?_
        refine lv_iload_n hx hb dL_law_423 rfl (lv_at hl 3 rfl) ?_
        refine lv_iconst (v := 1) hx hb dL_law_424 (by decide) ?_
        refine lv_iadd hx hb dL_law_425 ?_
        refine va_sld hx hb hX hbl hbA hS (i := ((nI (5 * k)) + 1)) (vin_s 1 (by decide) (by omega) (by omega)) dL_law_426 ?_
        refine lm_call (rest := [.int r1]) ⟨hx, hb, hml, hown, hts⟩ hLX hP hP2 hB2 hS (c_m_interrupt l D q' cA' τ (xs (ix ((nI (5 * k)) + 1)))) (cwV 1 hts gL_49 rfl rfl rfl hdM_interrupt ⟨Nat.le_of_ble_eq_true rfl, Nat.le_of_ble_eq_true rfl⟩) rfl hl.1 rfl (Nat.le_of_ble_eq_true rfl) dL_law_427 ⟨Nat.le_of_ble_eq_true rfl, Nat.le_of_ble_eq_true rfl⟩ (fun τ1 r2 H locs e2 hP hP2 hB3 hS => ?_)
        have hPP := eq_interrupt hR hJ (xs (ix ((nI (5 * k)) + 1)))
        rw [← e1.1, ← e2.1] at hPP
        refine lv_icmp_eq (tgt := 527) hx hb dL_law_430 rfl (fun _ => ?_) (fun h => absurd hPP.1 h)
        exact b527 H locs ls σ1 τ1 hl hP hP2 hB1 hB3 hPP.2.1 hPP.2.2 hS
      rcases Classical.em (x = 7) with s7 | s7
      · refine lv_tableIn (tgt := 435) hx hb dL_law_32 (by rw [s7]; decide) (by rw [s7]; decide) (by rw [s7]; rfl) rfl ?_
        refine lv_aload_n hx hb dL_law_435 rfl (lv_at hl 1 rfl) ?_
        refine lv_aload_n hx hb dL_law_436 rfl (lv_at hl 0 rfl) ?_
        refine lv_iload_n hx hb dL_law_437 rfl (lv_at hl 3 rfl) ?_
        refine lv_iconst (v := 1) hx hb dL_law_438 (by decide) ?_
        refine lv_iadd hx hb dL_law_439 ?_
        refine va_sld hx hb hX hbl hbA hS (i := ((nI (5 * k)) + 1)) (vin_s 1 (by decide) (by omega) (by omega)) dL_law_440 ?_
        refine lk_call (rest := []) ⟨hx, hb, hml, hown, hts⟩ hLX hP hP2 hB hS (c_k_run l D q cA tN σ (xs (ix ((nI (5 * k)) + 1))) (fun j => act_J (it_J j _ _ hR hJ).2)) (cwV 1 hts gL_50 rfl rfl rfl hdK_run ⟨Nat.le_of_ble_eq_true rfl, Nat.le_of_ble_eq_true rfl⟩) rfl hl.1 rfl (Nat.le_of_ble_eq_true rfl) dL_law_441 ⟨Nat.le_of_ble_eq_true rfl, Nat.le_of_ble_eq_true rfl⟩ (fun σ1 r1 H locs e1 hP hP2 hB1 hS => ?_)
        have hpc : ∀ j, pcOK (itr m_step j τ) := fun j => pc_J (it_J j _ _ hR hJ).1 (it_J j _ _ hR hJ).2
        refine lv_aload_n hx hb dL_law_444 rfl (lv_at hl 2 rfl) ?_
        refine lv_aload_n hx hb dL_law_445 rfl (lv_at hl 0 rfl) ?_
        refine lv_iload_n hx hb dL_law_446 rfl (lv_at hl 3 rfl) ?_
        refine lv_iconst (v := 1) hx hb dL_law_447 (by decide) ?_
        refine lv_iadd hx hb dL_law_448 ?_
        refine va_sld hx hb hX hbl hbA hS (i := ((nI (5 * k)) + 1)) (vin_s 1 (by decide) (by omega) (by omega)) dL_law_449 ?_
        refine lm_call (rest := [.int r1]) ⟨hx, hb, hml, hown, hts⟩ hLX hP hP2 hB2 hS (c_m_run l D q' cA' τ (xs (ix ((nI (5 * k)) + 1))) hpc) (cwV 1 hts gL_54 rfl rfl rfl hdM_run ⟨Nat.le_of_ble_eq_true rfl, Nat.le_of_ble_eq_true rfl⟩) rfl hl.1 rfl (Nat.le_of_ble_eq_true rfl) dL_law_450 ⟨Nat.le_of_ble_eq_true rfl, Nat.le_of_ble_eq_true rfl⟩ (fun τ1 r2 H locs e2 hP hP2 hB3 hS => ?_)
        have hPP := eq_run hR hJ (xs (ix ((nI (5 * k)) + 1)))
        rw [← e1, ← e2] at hPP
        refine lv_icmp_eq (tgt := 527) hx hb dL_law_453 rfl (fun _ => ?_) (fun h => absurd hPP.1 h)
        exact b527 H locs ls σ1 τ1 hl hP hP2 hB1 hB3 hPP.2.1 hPP.2.2 hS
      rcases Classical.em (x = 8) with s8 | s8
      · refine lv_tableIn (tgt := 458) hx hb dL_law_32 (by rw [s8]; decide) (by rw [s8]; decide) (by rw [s8]; rfl) rfl ?_
        refine lv_aload_n hx hb dL_law_458 rfl (lv_at hl 1 rfl) ?_
        refine lv_aload_n hx hb dL_law_459 rfl (lv_at hl 0 rfl) ?_
        refine lv_iload_n hx hb dL_law_460 rfl (lv_at hl 3 rfl) ?_
        refine lv_iconst (v := 1) hx hb dL_law_461 (by decide) ?_
        refine lv_iadd hx hb dL_law_462 ?_
        refine va_sld hx hb hX hbl hbA hS (i := ((nI (5 * k)) + 1)) (vin_s 1 (by decide) (by omega) (by omega)) dL_law_463 ?_
        refine lk_call (rest := []) ⟨hx, hb, hml, hown, hts⟩ hLX hP hP2 hB hS (c_k_word l D q cA tN σ (xs (ix ((nI (5 * k)) + 1)))) (cwV 1 hts gL_55 rfl rfl rfl hdK_word ⟨Nat.le_of_ble_eq_true rfl, Nat.le_of_ble_eq_true rfl⟩) rfl hl.1 rfl (Nat.le_of_ble_eq_true rfl) dL_law_464 ⟨Nat.le_of_ble_eq_true rfl, Nat.le_of_ble_eq_true rfl⟩ (fun σ1 r1 H locs e1 hP hP2 hB1 hS => ?_)
        refine lv_aload_n hx hb dL_law_467 rfl (lv_at hl 2 rfl) ?_
        refine lv_aload_n hx hb dL_law_468 rfl (lv_at hl 0 rfl) ?_
        refine lv_iload_n hx hb dL_law_469 rfl (lv_at hl 3 rfl) ?_
        refine lv_iconst (v := 1) hx hb dL_law_470 (by decide) ?_
        refine lv_iadd hx hb dL_law_471 ?_
        refine va_sld hx hb hX hbl hbA hS (i := ((nI (5 * k)) + 1)) (vin_s 1 (by decide) (by omega) (by omega)) dL_law_472 ?_
        refine lm_call (rest := [.int r1]) ⟨hx, hb, hml, hown, hts⟩ hLX hP hP2 hB2 hS (c_m_word l D q' cA' τ (xs (ix ((nI (5 * k)) + 1)))) (cwV 1 hts gL_58 rfl rfl rfl hdM_word ⟨Nat.le_of_ble_eq_true rfl, Nat.le_of_ble_eq_true rfl⟩) rfl hl.1 rfl (Nat.le_of_ble_eq_true rfl) dL_law_473 ⟨Nat.le_of_ble_eq_true rfl, Nat.le_of_ble_eq_true rfl⟩ (fun τ1 r2 H locs e2 hP hP2 hB3 hS => ?_)
        have hPP := eq_word hR hJ (xs (ix ((nI (5 * k)) + 1)))
        rw [← e1, ← e2] at hPP
        refine lv_icmp_eq (tgt := 527) hx hb dL_law_476 rfl (fun _ => ?_) (fun h => absurd hPP.1 h)
        exact b527 H locs ls σ1 τ1 hl hP hP2 hB1 hB3 hPP.2.1 hPP.2.2 hS
      rcases Classical.em (x = 9) with s9 | s9
      · refine lv_tableIn (tgt := 481) hx hb dL_law_32 (by rw [s9]; decide) (by rw [s9]; decide) (by rw [s9]; rfl) rfl ?_
        refine lv_aload_n hx hb dL_law_481 rfl (lv_at hl 1 rfl) ?_
        refine lv_aload_n hx hb dL_law_482 rfl (lv_at hl 0 rfl) ?_
        refine lv_iload_n hx hb dL_law_483 rfl (lv_at hl 3 rfl) ?_
        refine lv_iconst (v := 1) hx hb dL_law_484 (by decide) ?_
        refine lv_iadd hx hb dL_law_485 ?_
        refine va_sld hx hb hX hbl hbA hS (i := ((nI (5 * k)) + 1)) (vin_s 1 (by decide) (by omega) (by omega)) dL_law_486 ?_
        refine lk_call (rest := []) ⟨hx, hb, hml, hown, hts⟩ hLX hP hP2 hB hS (c_k_register l D q cA tN σ (xs (ix ((nI (5 * k)) + 1)))) (cwV 1 hts gL_59 rfl rfl rfl hdK_register ⟨Nat.le_of_ble_eq_true rfl, Nat.le_of_ble_eq_true rfl⟩) rfl hl.1 rfl (Nat.le_of_ble_eq_true rfl) dL_law_487 ⟨Nat.le_of_ble_eq_true rfl, Nat.le_of_ble_eq_true rfl⟩ (fun σ1 r1 H locs e1 hP hP2 hB1 hS => ?_)
        refine lv_aload_n hx hb dL_law_490 rfl (lv_at hl 2 rfl) ?_
        refine lv_aload_n hx hb dL_law_491 rfl (lv_at hl 0 rfl) ?_
        refine lv_iload_n hx hb dL_law_492 rfl (lv_at hl 3 rfl) ?_
        refine lv_iconst (v := 1) hx hb dL_law_493 (by decide) ?_
        refine lv_iadd hx hb dL_law_494 ?_
        refine va_sld hx hb hX hbl hbA hS (i := ((nI (5 * k)) + 1)) (vin_s 1 (by decide) (by omega) (by omega)) dL_law_495 ?_
        refine lm_call (rest := [.int r1]) ⟨hx, hb, hml, hown, hts⟩ hLX hP hP2 hB2 hS (c_m_register l D q' cA' τ (xs (ix ((nI (5 * k)) + 1)))) (cwV 1 hts gL_62 rfl rfl rfl hdM_register ⟨Nat.le_of_ble_eq_true rfl, Nat.le_of_ble_eq_true rfl⟩) rfl hl.1 rfl (Nat.le_of_ble_eq_true rfl) dL_law_496 ⟨Nat.le_of_ble_eq_true rfl, Nat.le_of_ble_eq_true rfl⟩ (fun τ1 r2 H locs e2 hP hP2 hB3 hS => ?_)
        have hPP := eq_register hR hJ (xs (ix ((nI (5 * k)) + 1)))
        rw [← e1, ← e2] at hPP
        refine lv_icmp_eq (tgt := 527) hx hb dL_law_499 rfl (fun _ => ?_) (fun h => absurd hPP.1 h)
        exact b527 H locs ls σ1 τ1 hl hP hP2 hB1 hB3 hPP.2.1 hPP.2.2 hS
      rcases Classical.em (x = 10) with s10 | s10
      · refine lv_tableIn (tgt := 504) hx hb dL_law_32 (by rw [s10]; decide) (by rw [s10]; decide) (by rw [s10]; rfl) rfl ?_
        refine lv_aload_n hx hb dL_law_504 rfl (lv_at hl 1 rfl) ?_
        refine lv_aload_n hx hb dL_law_505 rfl (lv_at hl 0 rfl) ?_
        refine lv_iload_n hx hb dL_law_506 rfl (lv_at hl 3 rfl) ?_
        refine lv_iconst (v := 1) hx hb dL_law_507 (by decide) ?_
        refine lv_iadd hx hb dL_law_508 ?_
        refine va_sld hx hb hX hbl hbA hS (i := ((nI (5 * k)) + 1)) (vin_s 1 (by decide) (by omega) (by omega)) dL_law_509 ?_
        refine lk_call (rest := []) ⟨hx, hb, hml, hown, hts⟩ hLX hP hP2 hB hS (c_k_kind l D q cA tN σ (xs (ix ((nI (5 * k)) + 1)))) (cwV 1 hts gL_63 rfl rfl rfl hdK_kind ⟨Nat.le_of_ble_eq_true rfl, Nat.le_of_ble_eq_true rfl⟩) rfl hl.1 rfl (Nat.le_of_ble_eq_true rfl) dL_law_510 ⟨Nat.le_of_ble_eq_true rfl, Nat.le_of_ble_eq_true rfl⟩ (fun σ1 r1 H locs e1 hP hP2 hB1 hS => ?_)
        refine lv_aload_n hx hb dL_law_513 rfl (lv_at hl 2 rfl) ?_
        refine lv_aload_n hx hb dL_law_514 rfl (lv_at hl 0 rfl) ?_
        refine lv_iload_n hx hb dL_law_515 rfl (lv_at hl 3 rfl) ?_
        refine lv_iconst (v := 1) hx hb dL_law_516 (by decide) ?_
        refine lv_iadd hx hb dL_law_517 ?_
        refine va_sld hx hb hX hbl hbA hS (i := ((nI (5 * k)) + 1)) (vin_s 1 (by decide) (by omega) (by omega)) dL_law_518 ?_
        refine lm_call (rest := [.int r1]) ⟨hx, hb, hml, hown, hts⟩ hLX hP hP2 hB2 hS (c_m_kind l D q' cA' τ (xs (ix ((nI (5 * k)) + 1)))) (cwV 1 hts gL_66 rfl rfl rfl hdM_kind ⟨Nat.le_of_ble_eq_true rfl, Nat.le_of_ble_eq_true rfl⟩) rfl hl.1 rfl (Nat.le_of_ble_eq_true rfl) dL_law_519 ⟨Nat.le_of_ble_eq_true rfl, Nat.le_of_ble_eq_true rfl⟩ (fun τ1 r2 H locs e2 hP hP2 hB3 hS => ?_)
        have hPP := eq_kind hR hJ (xs (ix ((nI (5 * k)) + 1)))
        rw [← e1, ← e2] at hPP
        refine lv_icmp_eq (tgt := 527) hx hb dL_law_522 rfl (fun _ => ?_) (fun h => absurd hPP.1 h)
        exact b527 H locs ls σ1 τ1 hl hP hP2 hB1 hB3 hPP.2.1 hPP.2.2 hS
      refine lv_tableOut (tgt := 527) hx hb dL_law_32 (by have n0 := ne_t 0 0 (by decide) s0; have n1 := ne_t 1 1 (by decide) s1; have n2 := ne_t 2 2 (by decide) s2; have n3 := ne_t 3 3 (by decide) s3; have n4 := ne_t 4 4 (by decide) s4; have n5 := ne_t 5 5 (by decide) s5; have n6 := ne_t 6 6 (by decide) s6; have n7 := ne_t 7 7 (by decide) s7; have n8 := ne_t 8 8 (by decide) s8; have n9 := ne_t 9 9 (by decide) s9; have n10 := ne_t 10 10 (by decide) s10; omega) rfl ?_
      exact b527 H locs ls σ τ hl hP hP2 hB hB2 hR hJ hS
  have hl := lv_sub hl [3, 2, 1, 0] rfl
  exact b18 520 0 H locs ls kI0 mI0 (by omega) (by omega) hl hPK hPM (show KB kI0 from ⟨Or.inr rfl, Or.inl rfl, Or.inl rfl, Or.inl rfl, Or.inl rfl⟩) (show MB mI0 from Or.inr rfl) RR_0 JJ_I hS
