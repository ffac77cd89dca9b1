set_option maxRecDepth 20000 in
theorem law_tab {s : State} {b : Nat} {A : Nat → Prop} (hts : ∀ w ∈ lw_tbl, w.before #[Value.ref b] s = true) (hgv : (Jvm.Cond.and given_1 narrow_1).before #[Value.ref b] s = true) (hA : ∀ a : Nat, a < s.heap.size → ¬ A a) : ∃ tN : Nat, va_Z RK "NAMED" "[I" (.ref tN) A s s.heap ∧ va_T .int tN 16 (fun j => .int (named j)) A s s.heap := by
  have hs := flat_of_before _ hgv
  obtain ⟨t, ht, hT⟩ := va_Tof (tm := (.static "TwoWorlds" "NAMED" "[I")) (ty := .int) (N := 16) (f := fun j => .int (named j)) (by decide) (hs (.arrayOf (.static "TwoWorlds" "NAMED" "[I") .int) (by decide +kernel)) (va_eqt (hs (.eq (.length (.static "TwoWorlds" "NAMED" "[I")) (.int 16)) (by decide +kernel))) (fun j hj => by
    match j, hj with
    | 0, _ => exact va_eqt (hs (.eq (.elem (.static "TwoWorlds" "NAMED" "[I") (.int 0)) (.int 1)) (by decide +kernel))
    | 1, _ => exact va_eqt (hs (.eq (.elem (.static "TwoWorlds" "NAMED" "[I") (.int 1)) (.int 7)) (by decide +kernel))
    | 2, _ => exact va_eqt (hs (.eq (.elem (.static "TwoWorlds" "NAMED" "[I") (.int 2)) (.int 7)) (by decide +kernel))
    | 3, _ => exact va_eqt (hs (.eq (.elem (.static "TwoWorlds" "NAMED" "[I") (.int 3)) (.int 3)) (by decide +kernel))
    | 4, _ => exact va_eqt (hs (.eq (.elem (.static "TwoWorlds" "NAMED" "[I") (.int 4)) (.int 3)) (by decide +kernel))
    | 5, _ => exact va_eqt (hs (.eq (.elem (.static "TwoWorlds" "NAMED" "[I") (.int 5)) (.int 1)) (by decide +kernel))
    | 6, _ => exact va_eqt (hs (.eq (.elem (.static "TwoWorlds" "NAMED" "[I") (.int 6)) (.int 1)) (by decide +kernel))
    | 7, _ => exact va_eqt (hs (.eq (.elem (.static "TwoWorlds" "NAMED" "[I") (.int 7)) (.int 0)) (by decide +kernel))
    | 8, _ => exact va_eqt (hs (.eq (.elem (.static "TwoWorlds" "NAMED" "[I") (.int 8)) (.int 0)) (by decide +kernel))
    | 9, _ => exact va_eqt (hs (.eq (.elem (.static "TwoWorlds" "NAMED" "[I") (.int 9)) (.int 2)) (by decide +kernel))
    | 10, _ => exact va_eqt (hs (.eq (.elem (.static "TwoWorlds" "NAMED" "[I") (.int 10)) (.int 0)) (by decide +kernel))
    | 11, _ => exact va_eqt (hs (.eq (.elem (.static "TwoWorlds" "NAMED" "[I") (.int 11)) (.int 2)) (by decide +kernel))
    | 12, _ => exact va_eqt (hs (.eq (.elem (.static "TwoWorlds" "NAMED" "[I") (.int 12)) (.int 2)) (by decide +kernel))
    | 13, _ => exact va_eqt (hs (.eq (.elem (.static "TwoWorlds" "NAMED" "[I") (.int 13)) (.int 0)) (by decide +kernel))
    | 14, _ => exact va_eqt (hs (.eq (.elem (.static "TwoWorlds" "NAMED" "[I") (.int 14)) (.int 0)) (by decide +kernel))
    | 15, _ => exact va_eqt (hs (.eq (.elem (.static "TwoWorlds" "NAMED" "[I") (.int 15)) (.int 0)) (by decide +kernel))
    | j + 16, hj => exact absurd hj (by omega)) hA
  exact ⟨t, va_Zref (hts (.laysStatic "TwoWorlds" "NAMED" "[I") (by decide +kernel)) (hts (.initialized "TwoWorlds") (by decide +kernel)) ht hA, hT⟩
