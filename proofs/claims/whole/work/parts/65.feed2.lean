/-! feed -/
theorem shj {j : Nat} (hj : j < 8) : (((8 : Int32) * nI j).toInt64.toUInt64 &&& Int64.toUInt64 63).toBitVec = BitVec.ofNat 64 (8 * j) ∧ (((8 : Int32) * nI j).toInt64 &&& 63).toBitVec = BitVec.ofNat 64 (8 * j) := by
  match j, hj with
  | 0, _ => exact ⟨rfl, rfl⟩
  | 1, _ => exact ⟨rfl, rfl⟩
  | 2, _ => exact ⟨rfl, rfl⟩
  | 3, _ => exact ⟨rfl, rfl⟩
  | 4, _ => exact ⟨rfl, rfl⟩
  | 5, _ => exact ⟨rfl, rfl⟩
  | 6, _ => exact ⟨rfl, rfl⟩
  | 7, _ => exact ⟨rfl, rfl⟩
  | j + 8, hj => exact absurd hj (by omega)
theorem byte_eq (x : Int64) {j : Nat} (hj : j < 8) : (x.toUInt64 >>> (((8 : Int32) * nI j).toInt64.toUInt64 &&& Int64.toUInt64 63)).toInt64.toInt32 &&& (255 : Int32) = ((x >>> (((8 : Int32) * nI j).toInt64 &&& 63)) &&& (255 : Int64)).toInt32 := by
  obtain ⟨e1, e2⟩ := shj hj
  have m1 : (BitVec.ofNat 64 (8 * j) % 64#64).toNat = 8 * j := by
    rw [BitVec.toNat_umod, BitVec.toNat_ofNat]
    show 8 * j % 2 ^ 64 % 64 = 8 * j
    omega
  have m2 : ((BitVec.ofNat 64 (8 * j)).smod 64#64).toNat = 8 * j := by
    match j, hj with
    | 0, _ => rfl
    | 1, _ => rfl
    | 2, _ => rfl
    | 3, _ => rfl
    | 4, _ => rfl
    | 5, _ => rfl
    | 6, _ => rfl
    | 7, _ => rfl
    | j + 8, hj => exact absurd hj (by omega)
  apply Int32.toBitVec_inj.mp
  have k := byte_key x.toBitVec (8 * j) (by omega)
  show BitVec.signExtend 32 (x.toBitVec >>> ((((8 : Int32) * nI j).toInt64.toUInt64 &&& Int64.toUInt64 63).toBitVec % 64#64).toNat) &&& 255#32 = BitVec.signExtend 32 (x.toBitVec.sshiftRight ((((8 : Int32) * nI j).toInt64 &&& 63).toBitVec.smod 64#64).toNat &&& 255#64)
  rw [e1, e2, m1, m2]
  exact k
theorem byte_rng (x : Int32) : 0 ≤ (x &&& 255).toInt ∧ (x &&& 255).toInt ≤ 255 := by
  have h : (x &&& 255).toBitVec.toNat ≤ 255 := by
    rw [Int32.toBitVec_and, BitVec.toNat_and]
    exact Nat.and_le_right
  have h2 : (x &&& 255).toInt = (x &&& 255).toBitVec.toNat := BitVec.toInt_eq_toNat_of_lt (by omega)
  omega
