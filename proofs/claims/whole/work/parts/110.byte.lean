/-! BYTES of a word -/
theorem pp_255 : ∀ i : Nat, i < 32 → (255#32).getLsbD i = decide (i < 8) := by decide
theorem pp_sh (x : BitVec 32) (s : Nat) (hs : s ≤ 24) : (x >>> s) &&& 255#32 = (x.sshiftRight s) &&& 255#32 := by
  apply BitVec.eq_of_getLsbD_eq
  intro i hi
  rw [BitVec.getLsbD_and, BitVec.getLsbD_and, pp_255 i hi, BitVec.getLsbD_ushiftRight, BitVec.getLsbD_sshiftRight]
  by_cases e : i < 8
  · rw [decide_eq_true e, Bool.and_true, Bool.and_true, decide_eq_false (show ¬ 32 ≤ i by omega), if_pos (by omega)]
    rfl
  · rw [decide_eq_false e, Bool.and_false, Bool.and_false]
theorem pp_and255 (a : Int32) : 0 ≤ (a &&& mm_i 255).toInt ∧ (a &&& mm_i 255).toInt ≤ 255 := by
  have e : (a &&& mm_i 255).toBitVec = a.toBitVec &&& 255#32 := rfl
  have l : (a.toBitVec &&& 255#32).toNat ≤ 255 := by
    rw [BitVec.toNat_and]; exact Nat.and_le_right
  have t : (a &&& mm_i 255).toInt = (a.toBitVec &&& 255#32).toInt := rfl
  rw [t, BitVec.toInt_eq_toNat_of_lt (by omega)]
  omega
