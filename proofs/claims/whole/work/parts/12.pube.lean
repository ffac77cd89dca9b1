theorem fv (x : Int64) (n : Nat) (hn : n ≤ 48) (s1 : UInt64) (h1 : (s1.toBitVec % 64).toNat = n) (s2 : Int64) (h2 : (s2.toBitVec.smod 64).toNat = n) : (x.toUInt64 >>> s1).toInt64.toInt32 &&& 65535 = ((x >>> s2) &&& 65535).toInt32 := by
  have e1 : (x.toUInt64 >>> s1).toInt64.toBitVec = x.toBitVec >>> n := by
    rw [← h1]
    exact UInt64.toBitVec_shiftRight _ _
  have e2 : (x >>> s2).toBitVec = x.toBitVec.sshiftRight n := by
    rw [← h2]
    rfl
  apply Int32.toBitVec_inj.mp
  rw [Int32.toBitVec_and, Int64.toBitVec_toInt32, Int64.toBitVec_toInt32, Int64.toBitVec_and, e1, e2]
  apply BitVec.eq_of_getLsbD_eq
  intro i hi
  have m32 : ∀ j : Fin 32, ((65535 : Int32).toBitVec).getLsbD j.val = decide (j.val < 16) := by decide
  have m64 : ∀ j : Fin 32, ((65535 : Int64).toBitVec).getLsbD j.val = decide (j.val < 16) := by decide
  have a : ((65535 : Int32).toBitVec).getLsbD i = decide (i < 16) := m32 ⟨i, hi⟩
  have b : ((65535 : Int64).toBitVec).getLsbD i = decide (i < 16) := m64 ⟨i, hi⟩
  rw [BitVec.getLsbD_and, a, BitVec.getLsbD_signExtend, BitVec.getLsbD_signExtend, BitVec.getLsbD_and, b, BitVec.getLsbD_ushiftRight, BitVec.getLsbD_sshiftRight]
  by_cases h : i < 16
  · simp [h, hi, show i < 64 by omega, show n + i < 64 by omega, show ¬ 64 ≤ i by omega]
  · simp [h, hi, show i < 64 by omega]
theorem eq_fill {σ τ : St} (hR : RR σ τ) (hJ : JJ σ) (a : Int32) (x : Int64) : PP (k_fill σ a x) (m_fill τ a x) := by
  unfold k_fill m_fill
  by_cases h1 : a < 0
  · rw [if_pos h1, if_pos h1]
    exact ⟨rfl, hR, hJ⟩
  rw [if_neg h1, if_neg h1]
  by_cases h2 : a ≤ 252
  · rw [if_pos h2, if_pos h2]
    have f0 : (((x.toUInt64 >>> (((16 * 0) : Int32).toInt64.toUInt64 &&& Int64.toUInt64 63)).toInt64 : Int64).toInt32 &&& 65535) = (((x >>> (((16 * 0) : Int32).toInt64 &&& 63)) &&& 65535) : Int64).toInt32 := fv x 0 (by decide) _ (by decide) _ (by decide)
    have f1 : (((x.toUInt64 >>> (((16 * 1) : Int32).toInt64.toUInt64 &&& Int64.toUInt64 63)).toInt64 : Int64).toInt32 &&& 65535) = (((x >>> (((16 * 1) : Int32).toInt64 &&& 63)) &&& 65535) : Int64).toInt32 := fv x 16 (by decide) _ (by decide) _ (by decide)
    have f2 : (((x.toUInt64 >>> (((16 * 2) : Int32).toInt64.toUInt64 &&& Int64.toUInt64 63)).toInt64 : Int64).toInt32 &&& 65535) = (((x >>> (((16 * 2) : Int32).toInt64 &&& 63)) &&& 65535) : Int64).toInt32 := fv x 32 (by decide) _ (by decide) _ (by decide)
    have f3 : (((x.toUInt64 >>> (((16 * 3) : Int32).toInt64.toUInt64 &&& Int64.toUInt64 63)).toInt64 : Int64).toInt32 &&& 65535) = (((x >>> (((16 * 3) : Int32).toInt64 &&& 63)) &&& 65535) : Int64).toInt32 := fv x 48 (by decide) _ (by decide) _ (by decide)
    have ek : k_fill_16_0 σ a x = (up2 (up2 (up2 (up2 σ 1 (ix (a + 0)) (((x.toUInt64 >>> (((16 * 0) : Int32).toInt64.toUInt64 &&& Int64.toUInt64 63)).toInt64 : Int64).toInt32 &&& 65535)) 1 (ix (a + 1)) (((x.toUInt64 >>> (((16 * 1) : Int32).toInt64.toUInt64 &&& Int64.toUInt64 63)).toInt64 : Int64).toInt32 &&& 65535)) 1 (ix (a + 2)) (((x.toUInt64 >>> (((16 * 2) : Int32).toInt64.toUInt64 &&& Int64.toUInt64 63)).toInt64 : Int64).toInt32 &&& 65535)) 1 (ix (a + 3)) (((x.toUInt64 >>> (((16 * 3) : Int32).toInt64.toUInt64 &&& Int64.toUInt64 63)).toInt64 : Int64).toInt32 &&& 65535), 1) := rfl
    have em : m_fill_16_0 τ a x = (up2 (up2 (up2 (up2 τ 1 (ix (a + 0)) ((((x >>> (((16 * 0) : Int32).toInt64 &&& 63)) &&& 65535) : Int64).toInt32)) 1 (ix (a + 1)) ((((x >>> (((16 * 1) : Int32).toInt64 &&& 63)) &&& 65535) : Int64).toInt32)) 1 (ix (a + 2)) ((((x >>> (((16 * 2) : Int32).toInt64 &&& 63)) &&& 65535) : Int64).toInt32)) 1 (ix (a + 3)) ((((x >>> (((16 * 3) : Int32).toInt64 &&& 63)) &&& 65535) : Int64).toInt32), 1) := rfl
    rw [ek, em, ← f0, ← f1, ← f2, ← f3]
    exact ⟨rfl, RR_up (RR_up (RR_up (RR_up hR vK_1 (by decide)) vK_1 (by decide)) vK_1 (by decide)) vK_1 (by decide), JJ_1 (JJ_1 (JJ_1 (JJ_1 hJ (wd_and _)) (wd_and _)) (wd_and _)) (wd_and _)⟩
  · rw [if_neg h2, if_neg h2]
    exact ⟨rfl, hR, hJ⟩
