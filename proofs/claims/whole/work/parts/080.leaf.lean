/-! LEAVES -/
abbrev mm_oI (v : Int) (h : mm_H) : mm_R := some (.inl (some (.int (mm_i v))), h)
abbrev mm_oV (h : mm_H) : mm_R := some (.inl none, h)
section LEAVES
variable {E : mm_E} {d B : Nat} {S : mm_S} {c : mm_N} {a : Nat}
theorem c_told {s w : Int} (hd : 1 ≤ d) (ha : a = 3 ∨ a = 14 ∨ a = 25) (h1 : 0 ≤ s) (h2 : s < 12) (h3 : 0 ≤ w) (h4 : w < 7) : mm_ev E d 30 [.ref (mm_ad B a), .int (mm_i s), .int (mm_i w)] (mm_hp B S c) = mm_oI (S.A (a + 1) (s * 7 + w)) (mm_hp B S c) := by
  refine mm_v30 ha (by omega) (fun F e hF he => ?_)
  simp (disch := omega) only [mm_e30_0, mm_hm, mm_ptN]
theorem c_tell {s w v : Int} (hd : 1 ≤ d) (ha : a = 3 ∨ a = 14 ∨ a = 25) (h1 : 0 ≤ s) (h2 : s < 12) (h3 : 0 ≤ w) (h4 : w < 7) : mm_ev E d 31 [.ref (mm_ad B a), .int (mm_i s), .int (mm_i w), .int (mm_i v)] (mm_hp B S c) = mm_oV (mm_hp B (S.sA (a + 1) (mm_u (S.A (a + 1)) (s * 7 + w) v)) c) := by
  refine mm_v31 ha (by omega) (fun F e hF he => ?_)
  simp (disch := omega) only [mm_e31_0, mm_hm, mm_ptN]
theorem mm_br_b1 (b : Bool) (X Y : mm_R) : mm_br (mm_i (mm_b1 b) = mm_i 0) X Y = if b = true then Y else X := by
  cases b
  · rw [mm_br_t (by rfl)]; rfl
  · rw [mm_br_eq (by decide) (by decide) (by decide) (by decide)]; rfl
theorem mm_br_b11 (b : Bool) (X Y : mm_R) : mm_br (mm_i (mm_b1 b) = mm_i 1) X Y = if b = true then X else Y := by
  cases b
  · rw [mm_br_eq (by decide) (by decide) (by decide) (by decide)]; rfl
  · rw [mm_br_t (by rfl)]; rfl
theorem mm_bz_b1 (b : Bool) (r : mm_R) : mm_bz (mm_i (mm_b1 b)) r = r := mm_bz_i (mm_b1_01 b).1 (mm_b1_01 b).2
theorem mm_bz0 (r : mm_R) : mm_bz (mm_i 0) r = r := mm_bz_i (by decide) (by decide)
theorem mm_bz1 (r : mm_R) : mm_bz (mm_i 1) r = r := mm_bz_i (by decide) (by decide)
theorem mm_ite_oI (b : Bool) (h : mm_H) : (if b = true then mm_oI 1 h else mm_oI 0 h) = mm_oI (mm_b1 b) h := by cases b <;> rfl
theorem c_has {b s : Int} (hd : 1 ≤ d) (h0 : 0 ≤ b) (h1 : 0 ≤ s) (h2 : s < 31) : mm_ev E d 61 [.int (mm_i b), .int (mm_i s)] (mm_hp B S c) = mm_oI (mm_b1 (mm_bt b s)) (mm_hp B S c) := by
  refine mm_v61 (by omega) (fun F e hF he => ?_)
  simp (disch := omega) only [mm_e61_0, mm_i_has, mm_br_b1, mm_bz0, mm_bz1]
  exact mm_ite_oI _ _
theorem c_isOf {b s : Int} (hd : 1 ≤ d) (h0 : 0 ≤ b) (h1 : 0 ≤ s) (h2 : s < 31) : mm_ev E d 159 [.int (mm_i b), .int (mm_i s)] (mm_hp B S c) = mm_oI (mm_b1 (mm_bt b s)) (mm_hp B S c) := by
  refine mm_v159 (by omega) (fun F e hF he => ?_)
  simp (disch := omega) only [mm_e159_0, mm_i_has, mm_br_b11, mm_bz0, mm_bz1]
  exact mm_ite_oI _ _
theorem c_supplies {i j : Int} (hd : 1 ≤ d) (ha : a = 3 ∨ a = 14 ∨ a = 25) (h1 : 0 ≤ i) (h2 : i < 12) (h3 : 0 ≤ j) (h4 : j < 12) (hb : 0 ≤ S.A (a + 3) j) : mm_ev E d 32 [.ref (mm_ad B a), .int (mm_i i), .int (mm_i j)] (mm_hp B S c) = mm_oI (mm_b1 (mm_bt (S.A (a + 3) j) i)) (mm_hp B S c) := by
  refine mm_v32 ha (by omega) (fun F e hF he => ?_)
  simp (disch := omega) only [mm_e32_0, mm_ptN, mm_i_has, mm_br_b1, mm_bz0, mm_bz1]
  exact mm_ite_oI _ _
theorem c_join {i j : Int} (hd : 1 ≤ d) (ha : a = 3 ∨ a = 14 ∨ a = 25) (h1 : 0 ≤ i) (h2 : i < 12) (h3 : 0 ≤ j) (h4 : j < 12) (hb : 0 ≤ S.A (a + 3) j) (hc : 0 ≤ S.A (a + 4) i) : mm_ev E d 38 [.ref (mm_ad B a), .int (mm_i i), .int (mm_i j)] (mm_hp B S c) = mm_oV (mm_hp B ((S.sA (a + 3) (mm_u (S.A (a + 3)) j (mm_ior (S.A (a + 3) j) (mm_pw i)))).sA (a + 4) (mm_u (S.A (a + 4)) i (mm_ior (S.A (a + 4) i) (mm_pw j)))) c) := by
  refine mm_v38 ha (by omega) (fun F e hF he => ?_)
  have g1 := mm_pw_nn i
  have g2 := mm_pw_nn j
  simp (disch := omega) only [mm_e38_0, mm_ptN, mm_i_shl, mm_i_or, mm_gA_ne]
theorem c_part {i j : Int} (hd : 1 ≤ d) (ha : a = 3 ∨ a = 14 ∨ a = 25) (h1 : 0 ≤ i) (h2 : i < 12) (h3 : 0 ≤ j) (h4 : j < 12) (hb : 0 ≤ S.A (a + 3) j) (hc : 0 ≤ S.A (a + 4) i) : mm_ev E d 39 [.ref (mm_ad B a), .int (mm_i i), .int (mm_i j)] (mm_hp B S c) = mm_oV (mm_hp B ((S.sA (a + 3) (mm_u (S.A (a + 3)) j (mm_idf (S.A (a + 3) j) (mm_pw i)))).sA (a + 4) (mm_u (S.A (a + 4)) i (mm_idf (S.A (a + 4) i) (mm_pw j)))) c) := by
  refine mm_v39 ha (by omega) (fun F e hF he => ?_)
  have g1 := mm_pw_nn i
  have g2 := mm_pw_nn j
  simp (disch := omega) only [mm_e39_0, mm_e39_14, mm_ptN, mm_i_shl, mm_i_andn, mm_gA_ne]
-- acts
theorem c_note {k s w : Int} (hd : 1 ≤ d) (h1 : 0 ≤ S.I 36 4) (h2 : S.I 36 4 < 20) (h3 : 0 ≤ S.I 36 3) (h4 : S.I 36 3 ≤ 20) : mm_ev E d 1 [.ref (mm_ad B 36), .int (mm_i k), .int (mm_i s), .int (mm_i w)] (mm_hp B S c) = mm_oV (mm_hp B (((((S.sA 37 (mm_u (S.A 37) (S.I 36 4) k)).sA 38 (mm_u (S.A 38) (S.I 36 4) s)).sA 39 (mm_u (S.A 39) (S.I 36 4) w)).sI 36 4 (if S.I 36 4 = 19 then 0 else S.I 36 4 + 1)).sI 36 3 (min (S.I 36 3 + 1) 20)) c) := by
  refine mm_v1 (by omega) (fun F e hF he => ?_)
  simp (disch := omega) only [mm_e1_0, mm_e1_30, mm_ptA, mm_gs, mm_gA_ne, mm_gI_ne, mm_br_eq, mm_hm, mm_i_mn]
  by_cases h : S.I 36 4 = 19
  · rw [if_pos h, if_pos h]
  · rw [if_neg h, if_neg h]
theorem c_latest (hd : 1 ≤ d) (h1 : 0 ≤ S.I 36 4) (h2 : S.I 36 4 < 20) (h3 : 0 ≤ S.I 36 3) (h4 : S.I 36 3 ≤ 20) : mm_ev E d 2 [.ref (mm_ad B 36)] (mm_hp B S c) = mm_oI (if S.I 36 4 = 0 then 19 else S.I 36 4 - 1) (mm_hp B ((S.sI 36 4 (if S.I 36 4 = 0 then 19 else S.I 36 4 - 1)).sI 36 3 (max (S.I 36 3 - 1) 0)) c) := by
  refine mm_v2 (by omega) (fun F e hF he => ?_)
  simp (disch := omega) only [mm_e2_0, mm_ptA, mm_gs, mm_gI_ne, mm_br_eq, mm_hm, mm_i_mx]
  by_cases h : S.I 36 4 = 0
  · rw [if_pos h, if_pos h]
  · rw [if_neg h, if_neg h]
theorem c_forget (hd : 1 ≤ d) : mm_ev E d 3 [.ref (mm_ad B 36)] (mm_hp B S c) = mm_oV (mm_hp B (S.sI 36 3 0) c) := by
  refine mm_v3 (by omega) (fun F e hF he => ?_)
  simp (disch := omega) only [mm_e3_0, mm_ptA]
-- the model
theorem c_thrown (hd : 1 ≤ d) : mm_ev E d 145 [.ref (mm_ad B 101)] (mm_hp B S c) = mm_oI (S.I 101 0) (mm_hp B S c) := by
  refine mm_v145 (by omega) (fun F e hF he => ?_)
  simp (disch := omega) only [mm_e145_0, mm_ptM]
theorem c_fail {k : Int} (hd : 1 ≤ d) : mm_ev E d 146 [.ref (mm_ad B 101), .int (mm_i k)] (mm_hp B S c) = mm_oI 0 (mm_hp B (S.sI 101 0 k) c) := by
  refine mm_v146 (by omega) (fun F e hF he => ?_)
  simp (disch := omega) only [mm_e146_0, mm_ptM]
theorem c_many (hd : 1 ≤ d) : mm_ev E d 150 [.ref (mm_ad B 101)] (mm_hp B S c) = mm_oI (S.A 102 0) (mm_hp B S c) := by
  refine mm_v150 (by omega) (fun F e hF he => ?_)
  simp (disch := omega) only [mm_e150_0, mm_ptM]
theorem c_of {s w : Int} (hd : 1 ≤ d) (h1 : 0 ≤ s) (h2 : s < 12) (h3 : 0 ≤ w) (h4 : w < 7) : mm_ev E d 152 [.ref (mm_ad B 101), .int (mm_i s), .int (mm_i w)] (mm_hp B S c) = mm_oI (S.A 102 (3 + 7 * s + w)) (mm_hp B S c) := by
  refine mm_v152 (by omega) (fun F e hF he => ?_)
  simp (disch := omega) only [mm_e152_0, mm_hm, mm_ptM]
theorem c_from {k : Int} (hd : 1 ≤ d) (h1 : 0 ≤ k) (h2 : k < 15) : mm_ev E d 155 [.ref (mm_ad B 101), .int (mm_i k)] (mm_hp B S c) = mm_oI (S.A 102 (159 + 2 * k)) (mm_hp B S c) := by
  refine mm_v155 (by omega) (fun F e hF he => ?_)
  simp (disch := omega) only [mm_e155_0, mm_hm, mm_ptM]
theorem c_to {k : Int} (hd : 1 ≤ d) (h1 : 0 ≤ k) (h2 : k < 15) : mm_ev E d 156 [.ref (mm_ad B 101), .int (mm_i k)] (mm_hp B S c) = mm_oI (S.A 102 (159 + 2 * k + 1)) (mm_hp B S c) := by
  refine mm_v156 (by omega) (fun F e hF he => ?_)
  simp (disch := omega) only [mm_e156_0, mm_hm, mm_ptM]
theorem c_isIn {v x y : Int} (hd : 1 ≤ d) (h1 : -2147483648 ≤ v) (h2 : v < 2147483648) (h3 : -2147483648 ≤ x) (h4 : x < 2147483648) (h5 : -2147483648 ≤ y) (h6 : y < 2147483648) : mm_ev E d 147 [.int (mm_i v), .int (mm_i x), .int (mm_i y)] (mm_hp B S c) = mm_oI (mm_b1 (decide (x ≤ v ∧ v ≤ y))) (mm_hp B S c) := by
  refine mm_v147 (by omega) (fun F e hF he => ?_)
  simp (disch := omega) only [mm_e147_0, mm_br_lt, mm_bz0, mm_bz1]
  by_cases h : v < x
  · rw [if_pos h, decide_eq_false (by omega)]; rfl
  · rw [if_neg h]
    by_cases g : y < v
    · rw [if_pos g, decide_eq_false (by omega)]; rfl
    · rw [if_neg g, decide_eq_true (by omega)]; rfl
theorem c_isStageM {s : Int} (hd : 2 ≤ d) (h1 : -2147483648 ≤ s) (h2 : s < 2147483648) (h3 : 0 ≤ S.A 102 0) (h4 : S.A 102 0 ≤ 12) : mm_ev E d 151 [.ref (mm_ad B 101), .int (mm_i s)] (mm_hp B S c) = mm_oI (mm_b1 (decide (0 ≤ s ∧ s ≤ S.A 102 0 - 1))) (mm_hp B S c) := by
  refine mm_v151 (by omega) (fun F e hF he => ?_)
  simp (disch := omega) only [mm_e151_0, mm_hm, c_many, c_isIn, mm_bz_b1]
-- bits counted
theorem c_bitCount {b : Int} (hd : 1 ≤ d) (h1 : 0 ≤ b) (h2 : b < 4096) : mm_ev E d 283 [.int (mm_i b)] (mm_hp B S c) = mm_oI (mm_pc b) (mm_hp B S c) := by
  refine mm_v283 (by omega) (fun F e hF he => ?_)
  rw [mm_e283_0]
  exact congrArg (fun v : Int32 => (some (.inl (some (.int v)), mm_hp B S c) : mm_R)) (mm_bc_eq h1 h2)
theorem mm_pc_range (b : Int) : 0 ≤ mm_pc b ∧ mm_pc b ≤ 12 := mm_cnt_nn _ 12
theorem l_bitsOf {x0 : Int32} {cl : mm_F} : ∀ (b n : Nat) (k : Int), b < 4096 → b < n → mm_r160_4 E cl n x0 (mm_i k) (mm_i (b : Int)) (mm_hp B S c) = mm_oI (k + mm_pc (b : Int)) (mm_hp B S c) := by
  intro b
  induction b using Nat.strongRecOn with
  | _ b ih =>
    intro n k hb hn
    obtain ⟨n, rfl⟩ : ∃ m, n = m + 1 := ⟨n - 1, by omega⟩
    rw [mm_e160_4]
    simp (disch := omega) only [mm_br_eq, mm_hm]
    by_cases h : b = 0
    · subst h
      rw [if_pos (by rfl)]
      have e : mm_pc ((0 : Nat) : Int) = 0 := by decide
      rw [e, Int.add_zero]
    · rw [if_neg (by omega)]
      obtain ⟨g1, g2⟩ := mm_pc_dec (b := b) (by omega) hb
      have e : mm_i (b : Int) &&& mm_i ((b : Int) - 1) = mm_i ((b &&& (b - 1) : Nat) : Int) := by
        have e1 : (b : Int) - 1 = ((b - 1 : Nat) : Int) := by omega
        rw [e1, mm_i_cast, mm_i_cast, mm_i_cast]
        apply mm_bv_ext
        intro i hi
        rw [mm_bv_and, mm_bv_n _ hi, mm_bv_n _ hi, mm_bv_n _ hi, Nat.testBit_and]
      rw [e, ih _ g2 n (k + 1) (by omega) (by omega)]
      rw [show k + 1 + mm_pc ((b &&& (b - 1) : Nat) : Int) = k + mm_pc (b : Int) by omega]
theorem c_bitsOf {b : Int} (hd : 1 ≤ d) (h1 : 0 ≤ b) (h2 : b < 4096) : mm_ev E d 160 [.int (mm_i b)] (mm_hp B S c) = mm_oI (mm_pc b) (mm_hp B S c) := by
  refine mm_v160 (by omega) (fun F e hF he => ?_)
  rw [mm_e160_0]
  have e : b = (b.toNat : Int) := by omega
  rw [e, l_bitsOf b.toNat (F + 99) 0 (by omega) (by omega), Int.zero_add]
-- who supplies, by pairs
/-- the pairs of a row are of numbers of stages -/
def mm_PR (f : Int → Int) : Prop := 0 ≤ f 2 ∧ f 2 ≤ 15 ∧ ∀ k : Int, 0 ≤ k → k < f 2 → 0 ≤ f (159 + 2 * k) ∧ f (159 + 2 * k) < 12 ∧ 0 ≤ f (159 + 2 * k + 1) ∧ f (159 + 2 * k + 1) < 12
def mm_supN (f : Int → Int) (s : Int) : Nat → Int
  | 0 => 0
  | k + 1 => mm_ior (mm_supN f s k) (if f (159 + 2 * (k : Int) + 1) = s then mm_pw (f (159 + 2 * (k : Int))) else 0)
def mm_cusN (f : Int → Int) (s : Int) : Nat → Int
  | 0 => 0
  | k + 1 => mm_ior (mm_cusN f s k) (if f (159 + 2 * (k : Int)) = s then mm_pw (f (159 + 2 * (k : Int) + 1)) else 0)
def mm_sup (f : Int → Int) (s : Int) : Int := mm_supN f s (f 2).toNat
def mm_cus (f : Int → Int) (s : Int) : Int := mm_cusN f s (f 2).toNat
theorem mm_supN_nn (f : Int → Int) (s : Int) : ∀ k, 0 ≤ mm_supN f s k
  | 0 => Int.le_refl 0
  | _ + 1 => mm_ior_nn _ _
theorem mm_cusN_nn (f : Int → Int) (s : Int) : ∀ k, 0 ≤ mm_cusN f s k
  | 0 => Int.le_refl 0
  | _ + 1 => mm_ior_nn _ _
theorem l_suppliersOf {s : Int} (hd : 1 ≤ d) (hP : mm_PR (S.A 102)) (hs1 : -2147483648 ≤ s) (hs2 : s < 2147483648) : ∀ (j k n : Nat), (S.A 102 2).toNat = k + j → j < n → mm_r157_4 E (mm_ev E d) n (mm_ad B 101) (mm_i s) (mm_i (mm_supN (S.A 102) s k)) (mm_i k) (mm_hp B S c) = mm_oI (mm_sup (S.A 102) s) (mm_hp B S c) := by
  obtain ⟨h1, h2, hP⟩ := hP
  intro j
  induction j with
  | zero =>
    intro k n hk hn
    obtain ⟨n, rfl⟩ : ∃ m, n = m + 1 := ⟨n - 1, by omega⟩
    rw [mm_e157_4]
    simp (disch := omega) only [mm_ptM, mm_br_le]
    rw [if_pos (by omega)]
    unfold mm_sup
    rw [hk, Nat.add_zero]
  | succ j ih =>
    intro k n hk hn
    obtain ⟨n, rfl⟩ : ∃ m, n = m + 1 := ⟨n - 1, by omega⟩
    have g := hP k (by omega) (by omega)
    have z := mm_supN_nn (S.A 102) s k
    have z2 := mm_pw_nn (S.A 102 (159 + 2 * (k : Int)))
    rw [mm_e157_4]
    simp (disch := omega) only [mm_ptM, mm_br_le, c_to, c_from, mm_hm, mm_br_eq, mm_i_shl, mm_i_or]
    rw [if_neg (by omega)]
    have ih := ih (k + 1) n (by omega) (by omega)
    rw [Int.natCast_add, Int.natCast_one] at ih
    by_cases e : S.A 102 (159 + 2 * (k : Int) + 1) = s
    · rw [if_pos e, ← ih, mm_supN, if_pos e]
    · rw [if_neg e, ← ih, mm_supN, if_neg e]
theorem c_suppliersOf {s : Int} (hd : 2 ≤ d) (hP : mm_PR (S.A 102)) (hs1 : -2147483648 ≤ s) (hs2 : s < 2147483648) : mm_ev E d 157 [.ref (mm_ad B 101), .int (mm_i s)] (mm_hp B S c) = mm_oI (mm_sup (S.A 102) s) (mm_hp B S c) := by
  refine mm_v157 (by omega) (fun F e hF he => ?_)
  have h := hP.2.1
  rw [mm_e157_0]
  exact l_suppliersOf (by omega) hP hs1 hs2 (S.A 102 2).toNat 0 (F + 99) (by omega) (by omega)
theorem l_customersOf {s : Int} (hd : 1 ≤ d) (hP : mm_PR (S.A 102)) (hs1 : -2147483648 ≤ s) (hs2 : s < 2147483648) : ∀ (j k n : Nat), (S.A 102 2).toNat = k + j → j < n → mm_r158_4 E (mm_ev E d) n (mm_ad B 101) (mm_i s) (mm_i (mm_cusN (S.A 102) s k)) (mm_i k) (mm_hp B S c) = mm_oI (mm_cus (S.A 102) s) (mm_hp B S c) := by
  obtain ⟨h1, h2, hP⟩ := hP
  intro j
  induction j with
  | zero =>
    intro k n hk hn
    obtain ⟨n, rfl⟩ : ∃ m, n = m + 1 := ⟨n - 1, by omega⟩
    rw [mm_e158_4]
    simp (disch := omega) only [mm_ptM, mm_br_le]
    rw [if_pos (by omega)]
    unfold mm_cus
    rw [hk, Nat.add_zero]
  | succ j ih =>
    intro k n hk hn
    obtain ⟨n, rfl⟩ : ∃ m, n = m + 1 := ⟨n - 1, by omega⟩
    have g := hP k (by omega) (by omega)
    have z := mm_cusN_nn (S.A 102) s k
    have z2 := mm_pw_nn (S.A 102 (159 + 2 * (k : Int) + 1))
    rw [mm_e158_4]
    simp (disch := omega) only [mm_ptM, mm_br_le, c_to, c_from, mm_hm, mm_br_eq, mm_i_shl, mm_i_or]
    rw [if_neg (by omega)]
    have ih := ih (k + 1) n (by omega) (by omega)
    rw [Int.natCast_add, Int.natCast_one] at ih
    by_cases e : S.A 102 (159 + 2 * (k : Int)) = s
    · rw [if_pos e, ← ih, mm_cusN, if_pos e]
    · rw [if_neg e, ← ih, mm_cusN, if_neg e]
theorem c_customersOf {s : Int} (hd : 2 ≤ d) (hP : mm_PR (S.A 102)) (hs1 : -2147483648 ≤ s) (hs2 : s < 2147483648) : mm_ev E d 158 [.ref (mm_ad B 101), .int (mm_i s)] (mm_hp B S c) = mm_oI (mm_cus (S.A 102) s) (mm_hp B S c) := by
  refine mm_v158 (by omega) (fun F e hF he => ?_)
  have h := hP.2.1
  rw [mm_e158_0]
  exact l_customersOf (by omega) hP hs1 hs2 (S.A 102 2).toNat 0 (F + 99) (by omega) (by omega)
end LEAVES
