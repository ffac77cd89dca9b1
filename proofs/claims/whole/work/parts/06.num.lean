-- numbers
abbrev wd (x : Int32) : Prop := x.toBitVec.toNat < 65536
abbrev b8 (x : Int32) : Prop := x.toBitVec.toNat < 256
abbrev ac (x : Int32) : Prop := x = 0 ∨ x = 1 ∨ x = 2 ∨ x = 3 ∨ x = 4 ∨ x = 5 ∨ x = 6
theorem i_ext {x y : Int32} (h : x.toBitVec.toNat = y.toBitVec.toNat) : x = y := Int32.toBitVec_inj.mp (BitVec.eq_of_toNat_eq h)
theorem and_nat (x y : Int32) : (x &&& y).toBitVec.toNat = x.toBitVec.toNat &&& y.toBitVec.toNat := by rw [Int32.toBitVec_and, BitVec.toNat_and]
theorem or_nat (x y : Int32) : (x ||| y).toBitVec.toNat = x.toBitVec.toNat ||| y.toBitVec.toNat := by rw [Int32.toBitVec_or, BitVec.toNat_or]
theorem and_lt (x y : Int32) {n : Nat} (h : y.toBitVec.toNat < n) : (x &&& y).toBitVec.toNat < n := by rw [and_nat]; exact Nat.lt_of_le_of_lt Nat.and_le_right h
theorem wd_and (x : Int32) : wd (x &&& 65535) := and_lt x 65535 (by decide)
theorem wd_511 (x : Int32) : wd (x &&& 511) := and_lt x 511 (by decide)
theorem b8_and (x : Int32) : b8 (x &&& 255) := and_lt x 255 (by decide)
theorem b8_wd {x : Int32} (h : b8 x) : wd x := Nat.lt_trans h (by decide)
theorem and_id {x m : Int32} (k : Nat) (hm : m.toBitVec.toNat = 2 ^ k - 1) (h : x.toBitVec.toNat < 2 ^ k) : x &&& m = x := i_ext (by rw [and_nat, hm, Nat.and_two_pow_sub_one_eq_mod, Nat.mod_eq_of_lt h])
theorem wd_id {x : Int32} (h : wd x) : x &&& 65535 = x := and_id 16 (by decide) h
theorem b8_id {x : Int32} (h : b8 x) : x &&& 255 = x := and_id 8 (by decide) h
theorem wd_or {x : Int32} (h : wd x) : wd (x ||| 32768) := by
  show (x ||| 32768).toBitVec.toNat < 2 ^ 16
  rw [or_nat]
  exact Nat.or_lt_two_pow h (by decide)
theorem zb_wd {x : Int32} (h : zb x) : wd x := by rcases h with rfl | rfl <;> decide
theorem wd_1000 {a : Int32} (h : ac a) : wd (1000 + a) := by rcases h with rfl | rfl | rfl | rfl | rfl | rfl | rfl <;> decide
theorem wd_link {a y : Int32} (h : ac a) (hy : zb y) : wd (65408 + 16 * a + y) := by rcases h with rfl | rfl | rfl | rfl | rfl | rfl | rfl <;> rcases hy with rfl | rfl <;> decide
theorem bit_01 (x : Int32) : x &&& 1 = 0 ∨ x &&& 1 = 1 := by
  have h : (x &&& 1).toBitVec.toNat < 2 := and_lt x 1 (by decide)
  have h2 : (x &&& 1).toBitVec.toNat = 0 ∨ (x &&& 1).toBitVec.toNat = 1 := by omega
  rcases h2 with h2 | h2
  · exact Or.inl (i_ext h2)
  · exact Or.inr (i_ext h2)
theorem nat_nI (x : Int32) : x = nI x.toBitVec.toNat := i_ext (by rw [pk_tn x.toBitVec.isLt])
theorem nI_nat {j : Nat} (h : j < 2 ^ 32) : (nI j).toBitVec.toNat = j := pk_tn h
theorem wd_ix {x : Int32} (h : wd x) : ix x = x.toBitVec.toNat := by
  have h1 : x.toBitVec.toNat < 65536 := h
  show x.toNatClampNeg = x.toBitVec.toNat
  conv => lhs; rw [nat_nI x]
  exact nI_clamp (by omega)
theorem ix_and {x m : Int32} {n : Nat} (h : m.toBitVec.toNat < n) (hn : n ≤ 65536) : ix (x &&& m) < n := by
  have h1 := and_lt x m h
  rw [wd_ix (Nat.lt_of_lt_of_le h1 hn)]
  exact h1
/-- a register's number of three bits, not seven -/
theorem ix_lt7 {x : Int32} (h : ¬ (x &&& 7) = 7) : ix (x &&& 7) < 7 := by
  have h1 : (x &&& 7).toBitVec.toNat < 8 := and_lt x 7 (by decide)
  have h2 : ¬ (x &&& 7).toBitVec.toNat = 7 := fun e => h (i_ext e)
  rw [wd_ix (by omega)]
  omega
-- the kind of an address
def ks (f g h : Nat → Int32) (a : Int32) (k : Nat) (p : Int32 × Int32) : Int32 × Int32 := if h k = 0 then p else if a < f k then p else if g k < a then p else (h k, p.2 + 1)
def kfin (p : Int32 × Int32) : Int32 := if p.2 = 1 then p.1 else 0
def kof (f g h : Nat → Int32) (a : Int32) : Int32 := kfin (ks f g h a 3 (ks f g h a 2 (ks f g h a 1 (ks f g h a 0 (0, 0)))))
theorem pr_ite {α β : Type} {c : Prop} {_ : Decidable c} (a : α) (x y : β) : (if c then (a, x) else (a, y)) = (a, if c then x else y) := by split <;> rfl
theorem kk_4 (σ : St) (a x y : Int32) : k_kindByRegions_7_4 σ a x y = (σ, kfin (x, y)) := by
  unfold k_kindByRegions_7_4 k_kindByRegions_72 kfin
  split <;> rfl
theorem kk_3 (σ : St) (a x y : Int32) : k_kindByRegions_7_3 σ a x y = (σ, kfin (ks (σ 3) (σ 4) (σ 5) a 3 (x, y))) := by
  unfold k_kindByRegions_7_3 k_kindByRegions_56_3 ks
  simp only [kk_4, ix_3]
  split
  · rfl
  · split
    · rfl
    · split <;> rfl
theorem kk_2 (σ : St) (a x y : Int32) : k_kindByRegions_7_2 σ a x y = (σ, kfin (ks (σ 3) (σ 4) (σ 5) a 3 (ks (σ 3) (σ 4) (σ 5) a 2 (x, y)))) := by
  unfold k_kindByRegions_7_2 k_kindByRegions_56_2
  simp only [kk_3, ix_2]
  conv => rhs; rw [show ks (σ 3) (σ 4) (σ 5) a 2 (x, y) = if σ 5 2 = 0 then (x, y) else if a < σ 3 2 then (x, y) else if σ 4 2 < a then (x, y) else (σ 5 2, y + 1) from rfl]
  split
  · rfl
  · split
    · rfl
    · split <;> rfl
theorem kk_1 (σ : St) (a x y : Int32) : k_kindByRegions_7_1 σ a x y = (σ, kfin (ks (σ 3) (σ 4) (σ 5) a 3 (ks (σ 3) (σ 4) (σ 5) a 2 (ks (σ 3) (σ 4) (σ 5) a 1 (x, y))))) := by
  unfold k_kindByRegions_7_1 k_kindByRegions_56_1
  simp only [kk_2, ix_1]
  conv => rhs; rw [show ks (σ 3) (σ 4) (σ 5) a 1 (x, y) = if σ 5 1 = 0 then (x, y) else if a < σ 3 1 then (x, y) else if σ 4 1 < a then (x, y) else (σ 5 1, y + 1) from rfl]
  split
  · rfl
  · split
    · rfl
    · split <;> rfl
theorem kk_0 (σ : St) (a x y : Int32) : k_kindByRegions_7_0 σ a x y = (σ, kfin (ks (σ 3) (σ 4) (σ 5) a 3 (ks (σ 3) (σ 4) (σ 5) a 2 (ks (σ 3) (σ 4) (σ 5) a 1 (ks (σ 3) (σ 4) (σ 5) a 0 (x, y)))))) := by
  unfold k_kindByRegions_7_0 k_kindByRegions_56_0
  simp only [kk_1, ix_0]
  conv => rhs; rw [show ks (σ 3) (σ 4) (σ 5) a 0 (x, y) = if σ 5 0 = 0 then (x, y) else if a < σ 3 0 then (x, y) else if σ 4 0 < a then (x, y) else (σ 5 0, y + 1) from rfl]
  split
  · rfl
  · split
    · rfl
    · split <;> rfl
theorem kk (σ : St) (a : Int32) : k_kindByRegions σ a = (σ, kof (σ 3) (σ 4) (σ 5) a) := kk_0 σ a 0 0
theorem mk_4 (σ : St) (a x y : Int32) : m_kindAt_14_4 σ a y x = (σ, kfin (x, y)) := by
  unfold m_kindAt_14_4 m_kindAt_81 kfin
  split <;> rfl
theorem mk_3 (σ : St) (a x y : Int32) : m_kindAt_14_3 σ a y x = (σ, kfin (ks (σ 2) (σ 3) (σ 4) a 3 (x, y))) := by
  unfold m_kindAt_14_3 m_kindAt_64_3 ks
  simp only [mk_4, ix_3]
  split
  · rfl
  · split
    · rfl
    · split <;> rfl
theorem mk_2 (σ : St) (a x y : Int32) : m_kindAt_14_2 σ a y x = (σ, kfin (ks (σ 2) (σ 3) (σ 4) a 3 (ks (σ 2) (σ 3) (σ 4) a 2 (x, y)))) := by
  unfold m_kindAt_14_2 m_kindAt_64_2
  simp only [mk_3, ix_2]
  conv => rhs; rw [show ks (σ 2) (σ 3) (σ 4) a 2 (x, y) = if σ 4 2 = 0 then (x, y) else if a < σ 2 2 then (x, y) else if σ 3 2 < a then (x, y) else (σ 4 2, y + 1) from rfl]
  split
  · rfl
  · split
    · rfl
    · split <;> rfl
theorem mk_1 (σ : St) (a x y : Int32) : m_kindAt_14_1 σ a y x = (σ, kfin (ks (σ 2) (σ 3) (σ 4) a 3 (ks (σ 2) (σ 3) (σ 4) a 2 (ks (σ 2) (σ 3) (σ 4) a 1 (x, y))))) := by
  unfold m_kindAt_14_1 m_kindAt_64_1
  simp only [mk_2, ix_1]
  conv => rhs; rw [show ks (σ 2) (σ 3) (σ 4) a 1 (x, y) = if σ 4 1 = 0 then (x, y) else if a < σ 2 1 then (x, y) else if σ 3 1 < a then (x, y) else (σ 4 1, y + 1) from rfl]
  split
  · rfl
  · split
    · rfl
    · split <;> rfl
theorem mk_0 (σ : St) (a x y : Int32) : m_kindAt_14_0 σ a y x = (σ, kfin (ks (σ 2) (σ 3) (σ 4) a 3 (ks (σ 2) (σ 3) (σ 4) a 2 (ks (σ 2) (σ 3) (σ 4) a 1 (ks (σ 2) (σ 3) (σ 4) a 0 (x, y)))))) := by
  unfold m_kindAt_14_0 m_kindAt_64_0
  simp only [mk_1, ix_0]
  conv => rhs; rw [show ks (σ 2) (σ 3) (σ 4) a 0 (x, y) = if σ 4 0 = 0 then (x, y) else if a < σ 2 0 then (x, y) else if σ 3 0 < a then (x, y) else (σ 4 0, y + 1) from rfl]
  split
  · rfl
  · split
    · rfl
    · split <;> rfl
theorem mk (τ : St) (a : Int32) : m_kindAt τ a = (τ, kof (τ 2) (τ 3) (τ 4) (a &&& 255)) := mk_0 τ (a &&& 255) 0 0
-- what holds of every state of the class
def kd (σ : St) : Prop := ∀ j, j < 256 → σ 2 j = kof (σ 3) (σ 4) (σ 5) (nI j)
def RB (o r : Nat → Int32) : Prop := wd (o 1) ∧ wd (o 2) ∧ b8 (o 3) ∧ zb (o 4) ∧ zb (o 5) ∧ ac (o 6) ∧ ∀ k, wd (r k)
def JJ (σ : St) : Prop := kd σ ∧ (∀ k, wd (σ 1 k)) ∧ RB (σ 6) (σ 8) ∧ RB (σ 7) (σ 9)
theorem upd_all {P : Int32 → Prop} {f : Nat → Int32} {k : Nat} {v : Int32} (h : ∀ j, P (f j)) (hv : P v) : ∀ j, P (upd f k v j) := by
  intro j
  unfold upd
  split
  · exact hv
  · exact h j
theorem JJ_0 {σ : St} {k : Nat} {v : Int32} (h : JJ σ) : JJ (up2 σ 0 k v) := h
theorem JJ_1 {σ : St} {k : Nat} {v : Int32} (h : JJ σ) (hv : wd v) : JJ (up2 σ 1 k v) := ⟨h.1, upd_all h.2.1 hv, h.2.2⟩
theorem JJ_8 {σ : St} {k : Nat} {v : Int32} (h : JJ σ) (hv : wd v) : JJ (up2 σ 8 k v) := by
  obtain ⟨h1, h2, ⟨r1, r2, r3, r4, r5, r6, r7⟩, h4⟩ := h
  exact ⟨h1, h2, ⟨r1, r2, r3, r4, r5, r6, upd_all r7 hv⟩, h4⟩
theorem JJ_6_1 {σ : St} {v : Int32} (h : JJ σ) (hv : wd v) : JJ (up2 σ 6 1 v) := by
  obtain ⟨h1, h2, ⟨r1, r2, r3, r4, r5, r6, r7⟩, h4⟩ := h
  exact ⟨h1, h2, ⟨hv, r2, r3, r4, r5, r6, r7⟩, h4⟩
theorem JJ_6_2 {σ : St} {v : Int32} (h : JJ σ) (hv : wd v) : JJ (up2 σ 6 2 v) := by
  obtain ⟨h1, h2, ⟨r1, r2, r3, r4, r5, r6, r7⟩, h4⟩ := h
  exact ⟨h1, h2, ⟨r1, hv, r3, r4, r5, r6, r7⟩, h4⟩
theorem JJ_6_3 {σ : St} {v : Int32} (h : JJ σ) (hv : b8 v) : JJ (up2 σ 6 3 v) := by
  obtain ⟨h1, h2, ⟨r1, r2, r3, r4, r5, r6, r7⟩, h4⟩ := h
  exact ⟨h1, h2, ⟨r1, r2, hv, r4, r5, r6, r7⟩, h4⟩
theorem JJ_6_4 {σ : St} {v : Int32} (h : JJ σ) (hv : zb v) : JJ (up2 σ 6 4 v) := by
  obtain ⟨h1, h2, ⟨r1, r2, r3, r4, r5, r6, r7⟩, h4⟩ := h
  exact ⟨h1, h2, ⟨r1, r2, r3, hv, r5, r6, r7⟩, h4⟩
theorem JJ_6_5 {σ : St} {v : Int32} (h : JJ σ) (hv : zb v) : JJ (up2 σ 6 5 v) := by
  obtain ⟨h1, h2, ⟨r1, r2, r3, r4, r5, r6, r7⟩, h4⟩ := h
  exact ⟨h1, h2, ⟨r1, r2, r3, r4, hv, r6, r7⟩, h4⟩
theorem JJ_6_6 {σ : St} {v : Int32} (h : JJ σ) (hv : ac v) : JJ (up2 σ 6 6 v) := by
  obtain ⟨h1, h2, ⟨r1, r2, r3, r4, r5, r6, r7⟩, h4⟩ := h
  exact ⟨h1, h2, ⟨r1, r2, r3, r4, r5, hv, r7⟩, h4⟩
theorem cpy_all {P : Int32 → Prop} {f g : Nat → Int32} {n : Nat} (hf : ∀ j, P (f j)) (hg : ∀ j, P (g j)) : ∀ j, P (va_cpy f g 0 0 n j) := by
  intro j
  unfold va_cpy
  split
  · exact hf _
  · exact hg j
theorem JJ_cp {σ : St} (h : JJ σ) : JJ (k_copy_76 σ) := by
  obtain ⟨h1, h2, ⟨r1, r2, r3, r4, r5, r6, r7⟩, ⟨q1, q2, q3, q4, q5, q6, q7⟩⟩ := h
  exact ⟨h1, h2, ⟨r1, r2, r3, r4, r5, r6, r7⟩, ⟨r1, r2, r3, r4, r5, r6, cpy_all r7 q7⟩⟩
theorem JJ_bk {σ : St} (h : JJ σ) : JJ (k_copy_67 σ) := by
  obtain ⟨h1, h2, ⟨r1, r2, r3, r4, r5, r6, r7⟩, ⟨q1, q2, q3, q4, q5, q6, q7⟩⟩ := h
  exact ⟨h1, h2, ⟨q1, q2, q3, q4, q5, q6, cpy_all q7 r7⟩, ⟨q1, q2, q3, q4, q5, q6, q7⟩⟩
theorem JJ_kd {σ : St} (h : JJ σ) : kd σ := h.1
theorem JJ_zo {σ : St} (h : JJ σ) : zb (σ 6 5) := h.2.2.1.2.2.2.2.1
theorem JJ_zz {σ : St} (h : JJ σ) : zb (σ 6 4) := h.2.2.1.2.2.2.1
theorem JJ_pc {σ : St} (h : JJ σ) : b8 (σ 6 3) := h.2.2.1.2.2.1
theorem JJ_ac {σ : St} (h : JJ σ) : ac (σ 6 6) := h.2.2.1.2.2.2.2.2.1
theorem JJ_r {σ : St} (h : JJ σ) (k : Nat) : wd (σ 8 k) := h.2.2.1.2.2.2.2.2.2 k
theorem JJ_w {σ : St} (h : JJ σ) (k : Nat) : wd (σ 1 k) := h.2.1 k
