/-! the reference's bytes of a long -/
theorem qm_c255 : ∀ j, j < 32 → (255#64).getLsbD j = decide (j < 8) := by decide +kernel
theorem qm_sm : ∀ k, k < 64 → ((nI k).toInt64 &&& 63).toBitVec.smod 64 = BitVec.ofNat 64 k := by decide +kernel
theorem qm_rx_b (x : Int64) {i : Nat} (hi : i < 8) : (qm_rx x i).toBitVec = x.toBitVec.sshiftRight (8 * i) := by
  unfold qm_rx
  show BitVec.sshiftRight' x.toBitVec (((nI (8 * i)).toInt64 &&& 63).toBitVec.smod 64) = _
  rw [qm_sm (8 * i) (by omega)]
  show x.toBitVec.sshiftRight (BitVec.ofNat 64 (8 * i)).toNat = _
  rw [BitVec.toNat_ofNat, Nat.mod_eq_of_lt (by omega)]
theorem qm_byteR (x : Int64) {i : Nat} (hi : i < 8) : (qm_rx x i &&& 255).toInt32 = sI (qm_by x i) := by
  apply Int32.toBitVec_inj.1
  show BitVec.signExtend 32 ((qm_rx x i).toBitVec &&& 255#64) = BitVec.ofNat 32 (BitVec.toNat (BitVec.ofNat 8 (x.toBitVec.toNat / 2 ^ (8 * i))))
  rw [qm_rx_b x hi, BitVec.signExtend_eq_setWidth_of_le _ (by decide), BitVec.toNat_ofNat]
  apply BitVec.eq_of_getLsbD_eq
  intro j hj
  rw [BitVec.getLsbD_setWidth, BitVec.getLsbD_and, qm_c255 j hj, BitVec.getLsbD_ofNat, Nat.testBit_mod_two_pow, Nat.testBit_div_two_pow]
  by_cases h : j < 8
  · rw [BitVec.getLsbD_sshiftRight]
    have h1 : 8 * i + j < 64 := by omega
    have h2 : j < 64 := by omega
    have h3 : ¬ 64 ≤ j := by omega
    simp [h, hj, h1, h2, h3, BitVec.testBit_toNat]
    rw [Nat.add_comm j, BitVec.getLsbD_eq_getElem h1]
  · simp [h]
