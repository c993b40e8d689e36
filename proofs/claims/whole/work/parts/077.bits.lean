/-! SETS OF BITS as whole numbers -/
def mm_bt (x s : Int) : Bool := x.toNat.testBit s.toNat
def mm_ior (x y : Int) : Int := ((x.toNat ||| y.toNat : Nat) : Int)
def mm_idf (x y : Int) : Int := ((x.toNat ^^^ (x.toNat &&& y.toNat) : Nat) : Int)
def mm_pw (s : Int) : Int := ((2 ^ s.toNat : Nat) : Int)
def mm_b1 (c : Bool) : Int := if c = true then 1 else 0
theorem mm_b1_01 (c : Bool) : 0 ≤ mm_b1 c ∧ mm_b1 c ≤ 1 := by cases c <;> decide
theorem mm_i_cast (n : Nat) : mm_i n = nI n := Int32.ofInt_eq_ofNat
def mm_bv (x : Int32) (i : Nat) : Bool := x.toBitVec.getLsbD i
theorem mm_bv_ext {x y : Int32} (h : ∀ i, i < 32 → mm_bv x i = mm_bv y i) : x = y := Int32.toBitVec_inj.mp (BitVec.eq_of_getLsbD_eq (fun i hi => h i hi))
theorem mm_bv_or (x y : Int32) (i : Nat) : mm_bv (x ||| y) i = (mm_bv x i || mm_bv y i) := by unfold mm_bv; rw [Int32.toBitVec_or, BitVec.getLsbD_or]
theorem mm_bv_and (x y : Int32) (i : Nat) : mm_bv (x &&& y) i = (mm_bv x i && mm_bv y i) := by unfold mm_bv; rw [Int32.toBitVec_and, BitVec.getLsbD_and]
theorem mm_bv_xor (x y : Int32) (i : Nat) : mm_bv (x ^^^ y) i = (mm_bv x i ^^ mm_bv y i) := by unfold mm_bv; rw [Int32.toBitVec_xor, BitVec.getLsbD_xor]
theorem mm_bv_n (n : Nat) {i : Nat} (h : i < 32) : mm_bv (nI n) i = n.testBit i := by
  show (BitVec.ofNat 32 n).getLsbD i = _
  rw [BitVec.getLsbD_ofNat]
  simp [h]
theorem mm_bv_i {x : Int} (h : 0 ≤ x) {i : Nat} (hi : i < 32) : mm_bv (mm_i x) i = x.toNat.testBit i := by
  have e : x = (x.toNat : Int) := by omega
  rw [e, mm_i_cast, mm_bv_n _ hi]
  rfl
theorem mm_bv_m1 : ∀ i, i < 32 → mm_bv (mm_i (-1)) i = true := by decide +kernel
theorem mm_i_or {x y : Int} (hx : 0 ≤ x) (hy : 0 ≤ y) : mm_i x ||| mm_i y = mm_i (mm_ior x y) := by
  apply mm_bv_ext
  intro i hi
  rw [mm_bv_or, mm_bv_i hx hi, mm_bv_i hy hi, mm_bv_i (by unfold mm_ior; omega) hi]
  show _ = Nat.testBit (x.toNat ||| y.toNat) i
  rw [Nat.testBit_or]
theorem mm_i_andn {x y : Int} (hx : 0 ≤ x) (hy : 0 ≤ y) : mm_i x &&& (mm_i y ^^^ mm_i (-1)) = mm_i (mm_idf x y) := by
  apply mm_bv_ext
  intro i hi
  rw [mm_bv_and, mm_bv_xor, mm_bv_m1 i hi, mm_bv_i hx hi, mm_bv_i hy hi, mm_bv_i (by unfold mm_idf; omega) hi]
  show _ = Nat.testBit (x.toNat ^^^ (x.toNat &&& y.toNat)) i
  rw [Nat.testBit_xor, Nat.testBit_and]
  cases x.toNat.testBit i <;> cases y.toNat.testBit i <;> rfl
theorem mm_sh1 : ∀ n, n < 31 → mm_i 1 <<< (nI n &&& 31) = nI (2 ^ n) := by decide +kernel
theorem mm_i_shl {s : Int} (h1 : 0 ≤ s) (h2 : s < 31) : mm_i 1 <<< (mm_i s &&& 31) = mm_i (mm_pw s) := by
  have e : s = (s.toNat : Int) := by omega
  rw [e, mm_i_cast, mm_sh1 _ (by omega)]
  show _ = mm_i ((2 ^ s.toNat : Nat) : Int)
  rw [mm_i_cast]
theorem mm_sl31 : ∀ n, n < 32 → ((nI n &&& 31).toBitVec.smod 32).toNat = n := by decide +kernel
theorem mm_bv_shr (n : Nat) (hn : n < 32) (x : Int32) {i : Nat} (hi : i < 32) : mm_bv (x >>> (nI n &&& 31)) i = if n + i < 32 then mm_bv x (n + i) else mm_bv x 31 := by
  unfold mm_bv
  rw [Int32.toBitVec_shiftRight]
  show (x.toBitVec.sshiftRight ((nI n &&& 31).toBitVec.smod 32).toNat).getLsbD i = _
  rw [mm_sl31 n hn, BitVec.getLsbD_sshiftRight, BitVec.msb_eq_getLsbD_last]
  simp [hi]
theorem mm_bv_1 : ∀ i, i < 32 → mm_bv (mm_i 1) i = decide (i = 0) := by decide +kernel
theorem mm_bv_0 : ∀ i, i < 32 → mm_bv (mm_i 0) i = false := by decide +kernel
theorem mm_i_has {b s : Int} (h0 : 0 ≤ b) (h1 : 0 ≤ s) (h2 : s < 31) : (mm_i b >>> (mm_i s &&& 31)) &&& mm_i 1 = mm_i (mm_b1 (mm_bt b s)) := by
  have e : s = (s.toNat : Int) := by omega
  have hz : mm_bt b s = mm_bv (mm_i b) (s.toNat) := by rw [mm_bv_i h0 (by omega)]; rfl
  apply mm_bv_ext
  intro i hi
  rw [hz]
  rw [mm_bv_and, mm_bv_1 i hi]
  conv => lhs; rw [e, mm_i_cast]
  rw [mm_bv_shr _ (by omega) _ hi]
  by_cases h : i = 0
  · subst h
    rw [if_pos (by omega), Nat.add_zero]
    cases mm_bv (mm_i b) s.toNat <;> rfl
  · rw [decide_eq_false h, Bool.and_false]
    cases mm_bv (mm_i b) s.toNat
    · exact (mm_bv_0 i hi).symm
    · show false = mm_bv (mm_i 1) i
      rw [mm_bv_1 i hi, decide_eq_false h]
-- what sets hold
theorem mm_bt_or {x y s : Int} : mm_bt (mm_ior x y) s = (mm_bt x s || mm_bt y s) := by
  show Nat.testBit (x.toNat ||| y.toNat) _ = _
  rw [Nat.testBit_or]; rfl
theorem mm_bt_df {x y s : Int} : mm_bt (mm_idf x y) s = (mm_bt x s && !mm_bt y s) := by
  show Nat.testBit (x.toNat ^^^ (x.toNat &&& y.toNat)) _ = _
  rw [Nat.testBit_xor, Nat.testBit_and]
  unfold mm_bt
  cases x.toNat.testBit s.toNat <;> cases y.toNat.testBit s.toNat <;> rfl
theorem mm_bt_pw {s t : Int} (h1 : 0 ≤ s) (h2 : 0 ≤ t) : mm_bt (mm_pw s) t = decide (t = s) := by
  show Nat.testBit (2 ^ s.toNat) t.toNat = _
  rw [Nat.testBit_two_pow]
  apply decide_eq_decide.mpr
  omega
theorem mm_bt_0 (s : Int) : mm_bt 0 s = false := by
  show Nat.testBit 0 _ = _
  exact Nat.zero_testBit _
theorem mm_ior_nn (x y : Int) : 0 ≤ mm_ior x y := by unfold mm_ior; omega
theorem mm_idf_nn (x y : Int) : 0 ≤ mm_idf x y := by unfold mm_idf; omega
theorem mm_pw_nn (s : Int) : 0 ≤ mm_pw s := Int.natCast_nonneg _
theorem mm_ior_lt {x y : Int} (hx : x < 4096) (hy : y < 4096) : mm_ior x y < 4096 := by
  unfold mm_ior
  have h : x.toNat ||| y.toNat < 2 ^ 12 := Nat.or_lt_two_pow (by omega) (by omega)
  omega
theorem mm_pw_lt {s : Int} (h : s < 12) : mm_pw s < 4096 := by
  unfold mm_pw
  have h : 2 ^ s.toNat < 2 ^ 12 := Nat.pow_lt_pow_right (by decide) (by omega)
  omega
theorem mm_bt_lt {x s : Int} (hx : x < 4096) (hs : 12 ≤ s) : mm_bt x s = false := by
  apply Nat.testBit_lt_two_pow
  have h : 2 ^ 12 ≤ 2 ^ s.toNat := Nat.pow_le_pow_right (by decide) (by omega)
  omega
theorem mm_bset_ext {x y : Int} (hx0 : 0 ≤ x) (hx : x < 4096) (hy0 : 0 ≤ y) (hy : y < 4096) (h : ∀ s : Int, 0 ≤ s → s < 12 → mm_bt x s = mm_bt y s) : x = y := by
  have e : x.toNat = y.toNat := by
    apply Nat.eq_of_testBit_eq
    intro i
    by_cases hi : i < 12
    · have g := h (i : Int) (by omega) (by omega)
      exact g
    · have g1 := mm_bt_lt (x := x) (s := (i : Int)) hx (by omega)
      have g2 := mm_bt_lt (x := y) (s := (i : Int)) hy (by omega)
      exact g1.trans g2.symm
  omega
theorem mm_idf_lt {x y : Int} (hx : x < 4096) : mm_idf x y < 4096 := by
  unfold mm_idf
  have h : x.toNat ^^^ (x.toNat &&& y.toNat) < 2 ^ 12 := Nat.xor_lt_two_pow (by omega) (Nat.lt_of_le_of_lt Nat.and_le_left (by omega))
  omega
theorem mm_set0 {x : Int} (hx0 : 0 ≤ x) (hx : x < 4096) (h : ∀ s : Int, 0 ≤ s → s < 12 → mm_bt x s = false) : x = 0 := mm_bset_ext hx0 hx (by omega) (by omega) (fun s h1 h2 => (h s h1 h2).trans (mm_bt_0 s).symm)
/-- how many there are below k -/
def mm_cnt (p : Int → Bool) : Nat → Int
  | 0 => 0
  | k + 1 => mm_cnt p k + mm_b1 (p k)
theorem mm_cnt_nn (p : Int → Bool) : ∀ k, 0 ≤ mm_cnt p k ∧ mm_cnt p k ≤ k
  | 0 => by show (0 : Int) ≤ 0 ∧ (0 : Int) ≤ ((0 : Nat) : Int); omega
  | k + 1 => by
    have h := mm_cnt_nn p k
    have g := mm_b1_01 (p k)
    show 0 ≤ mm_cnt p k + mm_b1 (p k) ∧ mm_cnt p k + mm_b1 (p k) ≤ ((k + 1 : Nat) : Int)
    omega
theorem mm_cnt_congr {p q : Int → Bool} : ∀ (k : Nat), (∀ i : Int, 0 ≤ i → i < k → p i = q i) → mm_cnt p k = mm_cnt q k
  | 0, _ => rfl
  | k + 1, h => by
    show mm_cnt p k + mm_b1 (p k) = mm_cnt q k + mm_b1 (q k)
    rw [mm_cnt_congr k (fun i h1 h2 => h i h1 (by omega)), h k (by omega) (by omega)]
/-- how many bits -/
def mm_pc (x : Int) : Int := mm_cnt (mm_bt x) 12
def mm_bc (i : Int32) : Int32 :=
  let a := i - ((i.toUInt32 >>> ((mm_i 1).toUInt32 &&& Int32.toUInt32 31)).toInt32 &&& mm_i 1431655765)
  let b := (a &&& mm_i 858993459) + ((a.toUInt32 >>> ((mm_i 2).toUInt32 &&& Int32.toUInt32 31)).toInt32 &&& mm_i 858993459)
  let c := (b + (b.toUInt32 >>> ((mm_i 4).toUInt32 &&& Int32.toUInt32 31)).toInt32) &&& mm_i 252645135
  let d := c + (c.toUInt32 >>> ((mm_i 8).toUInt32 &&& Int32.toUInt32 31)).toInt32
  let e := d + (d.toUInt32 >>> ((mm_i 16).toUInt32 &&& Int32.toUInt32 31)).toInt32
  e &&& mm_i 63
theorem mm_bc_all : (List.range 4096).all (fun b => decide (mm_bc (nI b) = mm_i (mm_pc (b : Nat)))) = true := by decide +kernel
theorem mm_bc_eq {x : Int} (h1 : 0 ≤ x) (h2 : x < 4096) : mm_bc (mm_i x) = mm_i (mm_pc x) := by
  have e : x = (x.toNat : Int) := by omega
  have g := of_decide_eq_true (List.all_eq_true.mp mm_bc_all x.toNat (List.mem_range.mpr (by omega)))
  rw [e, mm_i_cast]
  exact g
theorem mm_pc_all : (List.range 4096).all (fun b => Nat.beq b 0 || (decide (mm_pc ((b &&& (b - 1) : Nat) : Int) + 1 = mm_pc (b : Nat)) && Nat.ble ((b &&& (b - 1)) + 1) b)) = true := by decide +kernel
theorem mm_pc_dec {b : Nat} (h1 : 0 < b) (h2 : b < 4096) : mm_pc ((b &&& (b - 1) : Nat) : Int) + 1 = mm_pc (b : Nat) ∧ b &&& (b - 1) < b := by
  have g := List.all_eq_true.mp mm_pc_all b (List.mem_range.mpr h2)
  rw [show Nat.beq b 0 = false from Bool.eq_false_iff.mpr (fun z => absurd (Nat.eq_of_beq_eq_true z) (by omega)), Bool.false_or, Bool.and_eq_true] at g
  exact ⟨of_decide_eq_true g.1, Nat.le_of_ble_eq_true g.2⟩
