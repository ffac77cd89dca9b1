
theorem ix_0 : ix 0 = 0 := by decide
theorem ix_1 : ix 1 = 1 := by decide
theorem ix_2 : ix 2 = 2 := by decide
theorem ix_3 : ix 3 = 3 := by decide
theorem ix_4 : ix 4 = 4 := by decide
theorem ix_5 : ix 5 = 5 := by decide
theorem ix_6 : ix 6 = 6 := by decide
theorem ix_7 : ix 7 = 7 := by decide
theorem ix_8 : ix 8 = 8 := by decide
theorem ix_9 : ix 9 = 9 := by decide
theorem ix_10 : ix 10 = 10 := by decide
theorem ix_11 : ix 11 = 11 := by decide
theorem up2_at {σ : St} {c k : Nat} {v : Int32} : up2 σ c k v c k = v := by simp [up2, upd]
theorem up2_k {σ : St} {c k j : Nat} {v : Int32} (h : j ≠ k) : up2 σ c k v c j = σ c j := by simp [up2, upd, h]
theorem up2_c {σ : St} {c d k : Nat} {v : Int32} (h : d ≠ c) : up2 σ c k v d = σ d := by simp [up2, h]
theorem up2_same {σ : St} {c k : Nat} {v : Int32} (h : σ c k = v) : up2 σ c k v = σ := by
  funext d j
  by_cases hd : d = c
  · subst hd
    by_cases hj : j = k
    · subst hj
      simp [up2, upd, h]
    · simp [up2, upd, hj]
  · simp [up2, hd]
theorem up2_comm {σ : St} {c k c' k' : Nat} {v v' : Int32} (h : c ≠ c' ∨ k ≠ k') : up2 (up2 σ c k v) c' k' v' = up2 (up2 σ c' k' v') c k v := by
  funext d j
  by_cases h1 : d = c
  · by_cases h2 : d = c'
    · subst h1
      subst h2
      have hk : k ≠ k' := h.resolve_left (fun z => z rfl)
      by_cases h3 : j = k
      · subst h3
        simp [up2, upd, hk]
      · by_cases h4 : j = k'
        · subst h4
          simp [up2, upd, h3]
        · simp [up2, upd, h3, h4]
    · subst h1
      simp [up2, h2]
  · by_cases h2 : d = c'
    · subst h2
      simp [up2, h1]
    · simp [up2, h1, h2]
theorem st_ext {τ τ' : St} (h0 : τ 0 = τ' 0) (h1 : τ 1 = τ' 1) (h2 : τ 2 = τ' 2) (h3 : τ 3 = τ' 3) (h4 : τ 4 = τ' 4) (h5 : τ 5 = τ' 5) (h6 : τ 6 = τ' 6) (h7 : ∀ c, τ (c + 7) = τ' (c + 7)) : τ = τ' := by
  funext c
  match c with
  | 0 => exact h0
  | 1 => exact h1
  | 2 => exact h2
  | 3 => exact h3
  | 4 => exact h4
  | 5 => exact h5
  | 6 => exact h6
  | c + 7 => exact h7 c
/-- the class's present registers (object o, row r) in the reference's order -/
def rg (o r : Nat → Int32) : Nat → Int32 := fun k => if k < 7 then r k else if k = 7 then o 3 else if k = 8 then o 1 else if k = 9 then o 2 else if k = 10 then o 4 else if k = 11 then o 5 else 0
def v0 (σ : St) (act : Int32) : Nat → Int32 := fun k => if k = 4 then σ 0 7 else if k = 5 then σ 0 8 else if k = 6 then σ 0 9 else if k = 7 then σ 0 10 else if k = 10 then act else if k = 11 then σ 0 11 else if k = 12 then σ 0 12 else if k = 13 then σ 0 13 else if k = 14 then σ 0 14 else 0
/-- the class's state, read as a state of the reference -/
def vK (σ : St) : St := fun c => if c = 0 then v0 σ (σ 6 6) else if c = 1 then σ 1 else if c = 2 then σ 3 else if c = 3 then σ 4 else if c = 4 then σ 5 else if c = 5 then rg (σ 6) (σ 8) else if c = 6 then rg (σ 7) (σ 9) else fun _ => 0
theorem rg_3 {o r : Nat → Int32} {v : Int32} : rg (upd o 3 v) r = upd (rg o r) 7 v := by
  funext k
  by_cases h : k = 7 <;> simp [rg, upd, h]
theorem rg_1 {o r : Nat → Int32} {v : Int32} : rg (upd o 1 v) r = upd (rg o r) 8 v := by
  funext k
  by_cases h : k = 8 <;> simp [rg, upd, h]
theorem rg_2 {o r : Nat → Int32} {v : Int32} : rg (upd o 2 v) r = upd (rg o r) 9 v := by
  funext k
  by_cases h : k = 9 <;> simp [rg, upd, h]
theorem rg_4 {o r : Nat → Int32} {v : Int32} : rg (upd o 4 v) r = upd (rg o r) 10 v := by
  funext k
  by_cases h : k = 10 <;> simp [rg, upd, h]
theorem rg_5 {o r : Nat → Int32} {v : Int32} : rg (upd o 5 v) r = upd (rg o r) 11 v := by
  funext k
  by_cases h : k = 11 <;> simp [rg, upd, h]
theorem rg_6 {o r : Nat → Int32} {v : Int32} : rg (upd o 6 v) r = rg o r := by
  funext k
  simp [rg, upd]
theorem rg_r {o r : Nat → Int32} {v : Int32} {j : Nat} (hj : j < 7) : rg o (upd r j v) = upd (rg o r) j v := by
  funext k
  by_cases h : k = j
  · subst h
    simp [rg, upd, hj]
  · simp [rg, upd, h]
theorem vK_r {σ : St} {k : Nat} (h : k < 7) : vK σ 5 k = σ 8 k := by
  show rg (σ 6) (σ 8) k = σ 8 k
  simp [rg, h]
theorem vK_6_3 {σ : St} {v : Int32} : vK (up2 σ 6 3 v) = up2 (vK σ) 5 7 v := st_ext rfl rfl rfl rfl rfl (rg_3 (o := σ 6) (r := σ 8) (v := v)) rfl (fun _ => rfl)
theorem vK_6_1 {σ : St} {v : Int32} : vK (up2 σ 6 1 v) = up2 (vK σ) 5 8 v := st_ext rfl rfl rfl rfl rfl (rg_1 (o := σ 6) (r := σ 8) (v := v)) rfl (fun _ => rfl)
theorem vK_6_2 {σ : St} {v : Int32} : vK (up2 σ 6 2 v) = up2 (vK σ) 5 9 v := st_ext rfl rfl rfl rfl rfl (rg_2 (o := σ 6) (r := σ 8) (v := v)) rfl (fun _ => rfl)
theorem vK_6_4 {σ : St} {v : Int32} : vK (up2 σ 6 4 v) = up2 (vK σ) 5 10 v := st_ext rfl rfl rfl rfl rfl (rg_4 (o := σ 6) (r := σ 8) (v := v)) rfl (fun _ => rfl)
theorem vK_6_5 {σ : St} {v : Int32} : vK (up2 σ 6 5 v) = up2 (vK σ) 5 11 v := st_ext rfl rfl rfl rfl rfl (rg_5 (o := σ 6) (r := σ 8) (v := v)) rfl (fun _ => rfl)
theorem vK_8 {σ : St} {k : Nat} (h : k < 7) {v : Int32} : vK (up2 σ 8 k v) = up2 (vK σ) 5 k v := st_ext rfl rfl rfl rfl rfl (rg_r (o := σ 6) (r := σ 8) (v := v) h) rfl (fun _ => rfl)
theorem vK_1 {σ : St} {k : Nat} {v : Int32} : vK (up2 σ 1 k v) = up2 (vK σ) 1 k v := st_ext rfl rfl rfl rfl rfl rfl rfl (fun _ => rfl)
theorem v0_7 {σ : St} {v x : Int32} : v0 (up2 σ 0 7 v) x = upd (v0 σ x) 4 v := by
  funext k
  by_cases h : k = 4 <;> simp [v0, up2, upd, h]
theorem vK_0_7 {σ : St} {v : Int32} : vK (up2 σ 0 7 v) = up2 (vK σ) 0 4 v := st_ext v0_7 rfl rfl rfl rfl rfl rfl (fun _ => rfl)
theorem v0_8 {σ : St} {v x : Int32} : v0 (up2 σ 0 8 v) x = upd (v0 σ x) 5 v := by
  funext k
  by_cases h : k = 5 <;> simp [v0, up2, upd, h]
theorem vK_0_8 {σ : St} {v : Int32} : vK (up2 σ 0 8 v) = up2 (vK σ) 0 5 v := st_ext v0_8 rfl rfl rfl rfl rfl rfl (fun _ => rfl)
theorem v0_9 {σ : St} {v x : Int32} : v0 (up2 σ 0 9 v) x = upd (v0 σ x) 6 v := by
  funext k
  by_cases h : k = 6 <;> simp [v0, up2, upd, h]
theorem vK_0_9 {σ : St} {v : Int32} : vK (up2 σ 0 9 v) = up2 (vK σ) 0 6 v := st_ext v0_9 rfl rfl rfl rfl rfl rfl (fun _ => rfl)
theorem v0_10 {σ : St} {v x : Int32} : v0 (up2 σ 0 10 v) x = upd (v0 σ x) 7 v := by
  funext k
  by_cases h : k = 7 <;> simp [v0, up2, upd, h]
theorem vK_0_10 {σ : St} {v : Int32} : vK (up2 σ 0 10 v) = up2 (vK σ) 0 7 v := st_ext v0_10 rfl rfl rfl rfl rfl rfl (fun _ => rfl)
theorem v0_11 {σ : St} {v x : Int32} : v0 (up2 σ 0 11 v) x = upd (v0 σ x) 11 v := by
  funext k
  by_cases h : k = 11 <;> simp [v0, up2, upd, h]
theorem vK_0_11 {σ : St} {v : Int32} : vK (up2 σ 0 11 v) = up2 (vK σ) 0 11 v := st_ext v0_11 rfl rfl rfl rfl rfl rfl (fun _ => rfl)
theorem v0_12 {σ : St} {v x : Int32} : v0 (up2 σ 0 12 v) x = upd (v0 σ x) 12 v := by
  funext k
  by_cases h : k = 12 <;> simp [v0, up2, upd, h]
theorem vK_0_12 {σ : St} {v : Int32} : vK (up2 σ 0 12 v) = up2 (vK σ) 0 12 v := st_ext v0_12 rfl rfl rfl rfl rfl rfl (fun _ => rfl)
theorem v0_13 {σ : St} {v x : Int32} : v0 (up2 σ 0 13 v) x = upd (v0 σ x) 13 v := by
  funext k
  by_cases h : k = 13 <;> simp [v0, up2, upd, h]
theorem vK_0_13 {σ : St} {v : Int32} : vK (up2 σ 0 13 v) = up2 (vK σ) 0 13 v := st_ext v0_13 rfl rfl rfl rfl rfl rfl (fun _ => rfl)
theorem v0_14 {σ : St} {v x : Int32} : v0 (up2 σ 0 14 v) x = upd (v0 σ x) 14 v := by
  funext k
  by_cases h : k = 14 <;> simp [v0, up2, upd, h]
theorem vK_0_14 {σ : St} {v : Int32} : vK (up2 σ 0 14 v) = up2 (vK σ) 0 14 v := st_ext v0_14 rfl rfl rfl rfl rfl rfl (fun _ => rfl)
theorem v0_act {σ : St} {v x : Int32} : v0 (up2 σ 6 6 v) v = upd (v0 σ x) 10 v := by
  funext k
  by_cases h : k = 10 <;> simp [v0, up2, upd, h]
theorem vK_6_6 {σ : St} {v : Int32} : vK (up2 σ 6 6 v) = up2 (vK σ) 0 10 v := st_ext v0_act rfl rfl rfl rfl (rg_6 (o := σ 6) (r := σ 8) (v := v)) rfl (fun _ => rfl)
