/-! THE CLAIM OUT OF ONE WALK OF THE LAW'S BODY. Your part is whole_start (and what it stands on); all else here is the same for every law, but numbers. -/
def R_law : String := "TwoWorldsLaw"
def lw_P (b : Addr) (xs : List Int32) (args : Array Value) (s : State) : Prop := args = #[.ref b] ∧ s.IntsAt b xs ∧ xs.length ≤ 2560 ∧ (Jvm.Cond.and given_1 narrow_1).before args s = true
def lw_Q (_ : Array Value) (s : State) (o : Outcome) (t : State) : Prop := o = .returned (some (.int 1)) ∧ Framed s o t [] 17 876
def lw_Z (below : List Frame) (a : Array Value) (s : State) : State → Prop := fun t => ∃ o, t.status = .running ∧ Ended t below o ∧ lw_Q a s o t
/-- the law's own end, with 1 on the stack, nothing written that was there before, its room as the claim has it -/
theorem lw_ret {p : Program} {l : Launch} {e : Env} {s : State} {m : MethodId} {below : List Frame} {meth : Method} {c : Code} {b : Nat} (hx : p.tables.exec = Jvm.exec) (hb : c.code = code) (hr : meth.sig.returnType = ret) (hlocks : meth.locks = false) {pc : Nat} {H : Heap} {ls : Array Slot} (hdg : decode code pc = .ok (.ireturn, 1)) : W p l e room_1 s m #[Value.ref b] below meth c H [] 17 876 (lw_Z below #[Value.ref b] s) (F0 m pc ls [.int 1]) := by
  intro T hT X
  obtain ⟨fs, hret, hrun, hended, hW, hframe⟩ := X.leave (v := some (.int 1)) (hlocks := hlocks) (fun h => by rw [hr] at h; cases h)
  have hmeth' : T.vm.method? m = some meth := X.method'
  refine ⟨T.setFrames fs, ?_, .returned (some (.int 1)), hrun, hended, rfl, ⟨_, rfl⟩, hW, hframe⟩
  jvm_step X.here [X.here.top, hx, hb, hdg, hmeth', hr, ret, narrow_b1]
  (try refine ⟨rfl, ?_⟩); (try refine ⟨rfl, ?_⟩)
  first | (intro acts; rw [hret _ acts rfl rfl rfl]) | rw [hret _ _ rfl rfl rfl]
  exact Steps.refl _
/-- what holds at the law's entry: the machine, the code, the tables' words (any of lw_tbl by 'hts w (by decide +kernel)'), the script of L ints xs at the cell b, what the Statement gives of the start (any of its parts by flat_of_before) -/
def lw_At (p : Program) (s : State) (m : MethodId) (meth : Method) (c : Code) (b L : Nat) (xs : Nat → Int32) : Prop :=
  p.tables.exec = Jvm.exec ∧ c.code = code ∧ meth.sig.returnType = ret ∧ c.maxLocals = 4 ∧ s.vm.findClass R_law = some m.cls ∧ (∀ w ∈ lw_tbl, w.before #[Value.ref b] s = true) ∧ va_X b L xs s s.heap ∧ b < s.heap.size ∧ meth.locks = false ∧ (Jvm.Cond.and given_1 narrow_1).before #[Value.ref b] s = true
theorem wsK_ex {q : Nat → Nat} {cA : ClassId} {σ : St} : ∀ i, i < 10 → ∃ e : va_E, (wsK q cA σ)[i]? = some (q i, e) := by
  intro i hi
  match i, hi with
  | 0, _ => exact ⟨_, rfl⟩
  | 1, _ => exact ⟨_, rfl⟩
  | 2, _ => exact ⟨_, rfl⟩
  | 3, _ => exact ⟨_, rfl⟩
  | 4, _ => exact ⟨_, rfl⟩
  | 5, _ => exact ⟨_, rfl⟩
  | 6, _ => exact ⟨_, rfl⟩
  | 7, _ => exact ⟨_, rfl⟩
  | 8, _ => exact ⟨_, rfl⟩
  | 9, _ => exact ⟨_, rfl⟩
  | i + 10, hi => exact absurd hi (by omega)
theorem wsM_ex {q : Nat → Nat} {cA : ClassId} {σ : St} : ∀ i, i < 7 → ∃ e : va_E, (wsM q cA σ)[i]? = some (q i, e) := by
  intro i hi
  match i, hi with
  | 0, _ => exact ⟨_, rfl⟩
  | 1, _ => exact ⟨_, rfl⟩
  | 2, _ => exact ⟨_, rfl⟩
  | 3, _ => exact ⟨_, rfl⟩
  | 4, _ => exact ⟨_, rfl⟩
  | 5, _ => exact ⟨_, rfl⟩
  | 6, _ => exact ⟨_, rfl⟩
  | i + 7, hi => exact absurd hi (by omega)
def LX (D : va_G) (q q' : Nat → Nat) (cA cA' : ClassId) (tN : Nat) (s : State) (A : Nat → Prop) : Prop := va_K D vwCl [(cA, .int)] s ∧ va_K D vwCl [(cA', .int)] s ∧ (∀ i j, i < 10 → j < 10 → q i = q j → i = j) ∧ (∀ i j, i < 7 → j < 7 → q' i = q' j → i = j) ∧ (∀ i j, i < 10 → j < 7 → q i ≠ q' j) ∧ (∀ i, i < 10 → A (q i)) ∧ (∀ i, i < 7 → A (q' i)) ∧ va_Z RK "NAMED" "[I" (.ref tN) A s s.heap ∧ va_T .int tN 16 (fun j => .int (named j)) A s s.heap
theorem LX_D {D : va_G} {q q' : Nat → Nat} {cA cA' : ClassId} {A : Nat → Prop} {σ τ : St} (h : va_D A (wsK q cA σ ++ wsM q' cA' τ)) : (∀ i j, i < 10 → j < 10 → q i = q j → i = j) ∧ (∀ i j, i < 7 → j < 7 → q' i = q' j → i = j) ∧ (∀ i j, i < 10 → j < 7 → q i ≠ q' j) ∧ (∀ i, i < 10 → A (q i)) ∧ (∀ i, i < 7 → A (q' i)) := by
  have hlen : (wsK q cA σ).length = 10 := rfl
  have eK : ∀ i, i < 10 → ∃ e : va_E, (wsK q cA σ ++ wsM q' cA' τ)[i]? = some (q i, e) := fun i hi => by
    obtain ⟨e, he⟩ := wsK_ex (q := q) (cA := cA) (σ := σ) i hi
    exact ⟨e, by rw [List.getElem?_append_left (by rw [hlen]; exact hi)]; exact he⟩
  have eM : ∀ i, i < 7 → ∃ e : va_E, (wsK q cA σ ++ wsM q' cA' τ)[10 + i]? = some (q' i, e) := fun i hi => by
    obtain ⟨e, he⟩ := wsM_ex (q := q') (cA := cA') (σ := τ) i hi
    exact ⟨e, by rw [List.getElem?_append_right (by rw [hlen]; omega), hlen, show 10 + i - 10 = i by omega]; exact he⟩
  refine ⟨fun i j hi hj e => ?_, fun i j hi hj e => ?_, fun i j hi hj e => ?_, fun i hi => ?_, fun i hi => ?_⟩
  · obtain ⟨a, ha⟩ := eK i hi
    obtain ⟨b, hb⟩ := eK j hj
    exact h.1 i j _ _ ha hb e
  · obtain ⟨a, ha⟩ := eM i hi
    obtain ⟨b, hb⟩ := eM j hj
    have := h.1 _ _ _ _ ha hb e
    omega
  · obtain ⟨a, ha⟩ := eK i hi
    obtain ⟨b, hb⟩ := eM j hj
    have := h.1 _ _ _ _ ha hb e
    omega
  · obtain ⟨a, ha⟩ := eK i hi
    exact h.2 _ _ ha
  · obtain ⟨a, ha⟩ := eM i hi
    exact h.2 _ _ ha
section Lawside
variable {p : Program} {l : Launch} {e : Env} {R : Room} {s : State} {m : MethodId} {args : Array Value} {below : List Frame} {meth : Method} {c : Code} {H : Heap} {locs : List Loc} {cells slots : Nat} {Q : State → Prop}
variable {cc bytes : ByteArray} {pc nL maxL n index : Nat} {ls : Array Slot} {rest : List Value} {D : va_G} {q q' : Nat → Nat} {cA cA' : ClassId} {tN : Nat} {A : Nat → Prop} {σ τ : St} {Ts wsC : List Cond} {own : String} {y : MethodName} {ret : Option FieldType} {rm : Room} {As st0 : List Value}
theorem lk_call {post : Int32 → St → Prop} (S : CallFix p m c cc nL s args Ts own) (hX : LX D q q' cA cA' tN s A) (hP : va_P D vwCl (wsK q cA σ) H) (hP2 : va_P D vwCl (wsM q' cA' τ) H) (hB : KB σ) (hS : va_S A s.heap H locs)
    (hM : Met l y wsC rm (va_Pc (.ref (q 0) :: As) (KPre D q cA tN σ)) (va_Qi post (KPost D q cA) (KA q)) 0 0 (KA q)) (cw : CallW R s args own RK index y bytes maxL ret wsC rm 0 0 n)
    (hn : As.length = n) (hsz : ls.size = nL) (hst : st0 = As.reverse ++ .ref (q 0) :: rest) (hrm : (rest.map fun v => v.category).sum ≤ 8) (hdg : decode cc pc = .ok (.invokevirtual index, 3)) (hroom : cells ≤ R.cells ∧ slots ≤ R.slots)
    (kk : ∀ (u : St) (r : Int32) (H1 : Heap) (locs1 : List Loc), post r u → va_P D vwCl (wsK q cA u) H1 → va_P D vwCl (wsM q' cA' τ) H1 → KB u → va_S A s.heap H1 locs1 → W p l e R s m args below meth c H1 locs1 cells slots Q (F0 m (pc + 3) ls (.int r :: rest))) : W p l e R s m args below meth c H locs cells slots Q (F0 m pc ls st0) := by
  obtain ⟨k1, k2, i1, i2, ap, a1, a2, z, t⟩ := hX
  have hsub : ∀ a, KA q a → A a := fun a ⟨i, hi, e⟩ => by rw [e]; exact a1 i hi
  refine va_calli (va_runV S hM cw ⟨KPre_blind, va_recv k1 hP (ci := 0) (q0 := 0) rfl rfl, fun U hU hW => ⟨rfl, by rw [hU]; exact hP, hB, va_K.moved hW.alike k1, i1, ?_, ?_⟩⟩ rfl hn hsz hst (lv_room hrm) hdg hroom) hS (fun a _ h => hsub a h) hsub (fun r u t H1 locs1 ht _ hx hb _ hk hS1 => kk u r H1 locs1 hx (by rw [← ht]; exact hb.1) (hP2.kept (fun i x hx => ?_)) hb.2 hS1)
  · rw [hU]
    exact ((va_Z.moved hW.alike z).kept (fun a h1 h2 => hS.2.1 a h1 h2)).narrow hsub
  · rw [hU]
    exact ((va_T.moved hW.alike t).kept (fun a h1 h2 => hS.2.1 a h1 h2)).narrow hsub
  · obtain ⟨g1, g2⟩ := wsM_at i x hx
    refine hk x.1 (hP2 i x hx).lt (fun ⟨j, hj, e⟩ => ?_)
    exact ap j i hj g1 (by rw [← e]; exact g2)
theorem lm_call {post : Int32 → St → Prop} (S : CallFix p m c cc nL s args Ts own) (hX : LX D q q' cA cA' tN s A) (hP : va_P D vwCl (wsK q cA σ) H) (hP2 : va_P D vwCl (wsM q' cA' τ) H) (hB : MB τ) (hS : va_S A s.heap H locs)
    (hM : Met l y wsC rm (va_Pc (.ref (q' 0) :: As) (MPre D q' cA' τ)) (va_Qi post (MPost D q' cA') (MA q')) 0 0 (MA q')) (cw : CallW R s args own RM index y bytes maxL ret wsC rm 0 0 n)
    (hn : As.length = n) (hsz : ls.size = nL) (hst : st0 = As.reverse ++ .ref (q' 0) :: rest) (hrm : (rest.map fun v => v.category).sum ≤ 8) (hdg : decode cc pc = .ok (.invokevirtual index, 3)) (hroom : cells ≤ R.cells ∧ slots ≤ R.slots)
    (kk : ∀ (u : St) (r : Int32) (H1 : Heap) (locs1 : List Loc), post r u → va_P D vwCl (wsK q cA σ) H1 → va_P D vwCl (wsM q' cA' u) H1 → MB u → va_S A s.heap H1 locs1 → W p l e R s m args below meth c H1 locs1 cells slots Q (F0 m (pc + 3) ls (.int r :: rest))) : W p l e R s m args below meth c H locs cells slots Q (F0 m pc ls st0) := by
  obtain ⟨k1, k2, i1, i2, ap, a1, a2, z, t⟩ := hX
  have hsub : ∀ a, MA q' a → A a := fun a ⟨i, hi, e⟩ => by rw [e]; exact a2 i hi
  refine va_calli (va_runV S hM cw ⟨MPre_blind, va_recv k2 hP2 (ci := 2) (q0 := 0) rfl rfl, fun U hU hW => ⟨rfl, by rw [hU]; exact hP2, hB, va_K.moved hW.alike k2, i2⟩⟩ rfl hn hsz hst (lv_room hrm) hdg hroom) hS (fun a _ h => hsub a h) hsub (fun r u t H1 locs1 ht _ hx hb _ hk hS1 => kk u r H1 locs1 hx (hP.kept (fun i x hx => ?_)) (by rw [← ht]; exact hb.1) hb.2 hS1)
  obtain ⟨g1, g2⟩ := wsK_at i x hx
  refine hk x.1 (hP i x hx).lt (fun ⟨j, hj, e⟩ => ?_)
  exact ap i j g1 hj (by rw [← g2]; exact e)
end Lawside
