/-! a byte as the class keeps it is the model's, its sign told -/
theorem nar_b (x : Int32) : vp_nar .byte x = (Int32.toInt8 x).toInt32 := rfl
theorem bv_lo (v : BitVec 64) (s : Nat) (hs : s ≤ 56) : ((((v.sshiftRight s) &&& 255#64).signExtend 32).signExtend 8) = (((v >>> s).signExtend 32).signExtend 8) := by
  apply BitVec.eq_of_getLsbD_eq
  intro i hi
  have h1 : i < 32 := by omega
  have h2 : i < 64 := by omega
  have h3 : s + i < 64 := by omega
  have h255 : (255#64).getLsbD i = true := by
    have : ∀ i, i < 8 → (255#64).getLsbD i = true := by decide
    exact this i hi
  have h4 : ¬ 64 ≤ i := by omega
  simp only [BitVec.getLsbD_signExtend, BitVec.getLsbD_and, BitVec.getLsbD_sshiftRight, BitVec.getLsbD_ushiftRight, hi, h1, h2, h3, h4, h255, decide_true, decide_false, Bool.not_false, Bool.true_and, Bool.and_true, ↓reduceIte]
theorem bv_88 (x : BitVec 8) : (x.signExtend 32).signExtend 8 = x := by
  apply BitVec.eq_of_getLsbD_eq
  intro i hi
  have h1 : i < 32 := by omega
  simp only [BitVec.getLsbD_signExtend, hi, h1, decide_true, Bool.true_and, ↓reduceIte]
theorem bv_and (v : BitVec 64) : ((v &&& 255#64).signExtend 32) = BitVec.ofNat 32 (v.toNat % 256) := by
  apply BitVec.eq_of_toNat_eq
  have h0 : (v &&& 255#64).toNat = v.toNat % 256 := by
    rw [BitVec.toNat_and]
    exact Nat.and_two_pow_sub_one_eq_mod v.toNat 8
  have hm : (v &&& 255#64).msb = false := by
    rw [BitVec.msb_eq_false_iff_two_mul_lt, h0]
    omega
  rw [BitVec.signExtend_eq_setWidth_of_msb_false hm, BitVec.toNat_setWidth, h0, BitVec.toNat_ofNat]
theorem cb_mb (b : Int64) (k : Nat) (hk : k < 8) : cbV b k = sx8 (mbV b k) ∧ ∃ n, n < 256 ∧ mbV b k = nI n := by
  have hm : (mbV b k).toBitVec = ((b.toBitVec.sshiftRight (8 * k)) &&& 255#64).signExtend 32 := by
    match k, hk with
    | 0, _ => rfl
    | 1, _ => rfl
    | 2, _ => rfl
    | 3, _ => rfl
    | 4, _ => rfl
    | 5, _ => rfl
    | 6, _ => rfl
    | 7, _ => rfl
  have hc : (cbV b k).toBitVec = (((((b.toBitVec >>> (8 * k)).signExtend 32).signExtend 8).signExtend 32).signExtend 8).signExtend 32 := by
    match k, hk with
    | 0, _ => rfl
    | 1, _ => rfl
    | 2, _ => rfl
    | 3, _ => rfl
    | 4, _ => rfl
    | 5, _ => rfl
    | 6, _ => rfl
    | 7, _ => rfl
  refine ⟨?_, (b.toBitVec.sshiftRight (8 * k)).toNat % 256, Nat.mod_lt _ (by decide), ?_⟩
  · apply Int32.toBitVec_inj.mp
    rw [hc]
    show _ = ((mbV b k).toBitVec.signExtend 8).signExtend 32
    rw [hm, bv_lo b.toBitVec (8 * k) (by omega), bv_88]
  · apply Int32.toBitVec_inj.mp
    rw [hm, bv_and]
    rfl
