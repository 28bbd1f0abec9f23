/-! bytes of the tape -/
theorem byte_key (b : BitVec 64) (n : Nat) (hn : n ≤ 56) : BitVec.signExtend 32 (b >>> n) &&& 255#32 = BitVec.signExtend 32 (b.sshiftRight n &&& 255#64) := by
  apply BitVec.eq_of_getLsbD_eq
  intro i hi
  rw [BitVec.getLsbD_and, BitVec.getLsbD_signExtend, BitVec.getLsbD_signExtend, BitVec.getLsbD_and, BitVec.getLsbD_ushiftRight, BitVec.getLsbD_sshiftRight]
  have h255 : (255#32).getLsbD i = (255#64).getLsbD i := by
    match i, hi with
    | 0, _ => rfl
    | 1, _ => rfl
    | 2, _ => rfl
    | 3, _ => rfl
    | 4, _ => rfl
    | 5, _ => rfl
    | 6, _ => rfl
    | 7, _ => rfl
    | i + 8, hi =>
      have e1 : (255#32).getLsbD (i + 8) = false := by
        simp [BitVec.getLsbD, Nat.testBit_lt_two_pow (show 255 < 2 ^ (i + 8) from Nat.lt_of_lt_of_le (by decide : 255 < 2 ^ 8) (Nat.pow_le_pow_right (by decide) (by omega)))]
      have e2 : (255#64).getLsbD (i + 8) = false := by
        simp [BitVec.getLsbD, Nat.testBit_lt_two_pow (show 255 < 2 ^ (i + 8) from Nat.lt_of_lt_of_le (by decide : 255 < 2 ^ 8) (Nat.pow_le_pow_right (by decide) (by omega)))]
      rw [e1, e2]
  rw [h255]
  by_cases c : i < 8
  · have q1 : i < 64 := by omega
    have q2 : n + i < 64 := by omega
    have q3 : ¬ 64 ≤ i := by omega
    simp [hi, q1, q2, q3]
  · obtain ⟨d, rfl⟩ : ∃ d, i = d + 8 := ⟨i - 8, by omega⟩
    have e2 : (255#64).getLsbD (d + 8) = false := by
      simp [BitVec.getLsbD, Nat.testBit_lt_two_pow (show 255 < 2 ^ (d + 8) from Nat.lt_of_lt_of_le (by decide : 255 < 2 ^ 8) (Nat.pow_le_pow_right (by decide) (by omega)))]
    have q1 : d + 8 < 64 := by omega
    rw [e2, Bool.and_false, if_pos q1, Bool.and_false, Bool.and_false]
