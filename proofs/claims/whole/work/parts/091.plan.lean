/-! PLANS AT HAND: HELD, what holds, PRICE -/
/-- the first from k on, of j, that is not so -/
def pp_first (p : Int → Bool) : Nat → Int → Int
  | 0, _ => -1
  | j + 1, k => if p k = true then pp_first p j (k + 1) else k
theorem pp_first_r (p : Int → Bool) : ∀ (j : Nat) (k : Int), 0 ≤ k → pp_first p j k = -1 ∨ (k ≤ pp_first p j k ∧ pp_first p j k < k + j)
  | 0, _, _ => Or.inl rfl
  | j + 1, k, h => by
    show (if p k = true then pp_first p j (k + 1) else k) = -1 ∨ (k ≤ (if p k = true then pp_first p j (k + 1) else k) ∧ (if p k = true then pp_first p j (k + 1) else k) < k + ((j + 1 : Nat) : Int))
    by_cases e : p k = true
    · rw [if_pos e]
      rcases pp_first_r p j (k + 1) (by omega) with g | g
      · exact Or.inl g
      · exact Or.inr (by omega)
    · rw [if_neg e]
      exact Or.inr (by omega)
theorem pp_first_all {p : Int → Bool} : ∀ (j : Nat) (k : Int), 0 ≤ k → pp_first p j k = -1 → ∀ i : Int, k ≤ i → i < k + j → p i = true
  | 0, k, _, _, i, h1, h2 => by omega
  | j + 1, k, h, e, i, h1, h2 => by
    have e : (if p k = true then pp_first p j (k + 1) else k) = -1 := e
    by_cases f : p k = true
    · rw [if_pos f] at e
      by_cases g : i = k
      · rw [g]; exact f
      · exact pp_first_all j (k + 1) (by omega) e i (by omega) (by omega)
    · rw [if_neg f] at e; omega
section PLAN
variable {E : mm_E} {d B : Nat} {S : mm_S} {c : mm_N} {a : Nat}
noncomputable def pp_hd (S : mm_S) (a : Nat) (s : Int) : Int := if pp_nd S a s < 0 then -1 else pp_rt (pp_qd (S.I a 11) (S.A (a + 9) s) (pp_nd S a s))
def pp_rg (S : mm_S) (a : Nat) (s : Int) : Bool := decide (0 ≤ pp_nd S a s ∧ (S.A (a + 1) (s * 7 + 5) = -1 ∨ S.A (a + 5) s ≤ S.A (a + 1) (s * 7 + 5)) ∧ (S.A (a + 1) (s * 7 + 6) = -1 ∨ S.A (a + 5) s = S.A (a + 1) (s * 7 + 6)))
theorem pp_nd_r {s : Int} (hN : pp_NK S a) (hM : pp_TM S a) (h1 : 0 ≤ s) (h2 : s < S.I a 10) : -119 ≤ pp_nd S a s ∧ pp_nd S a s ≤ 128 := by
  have hn := hN.1
  have t := hN.2.2.2.2 s h1 (by omega)
  unfold pp_tR at t
  have w := pp_wt_r hN hM h1 h2
  have m := hM s h1 (by omega)
  unfold pp_nd
  omega
theorem pp_hd_r {s : Int} (hT : pp_NT S a) (hM : pp_TM S a) (h1 : 0 ≤ s) (h2 : s < S.I a 10) : -1 ≤ pp_hd S a s ∧ pp_hd S a s ≤ 44722 := by
  have w := pp_nd_r hT.1 hM h1 h2
  have z := hT.1.2.1
  have wd := pp_NT_wd hT h1 h2
  unfold pp_hd
  by_cases e : pp_nd S a s < 0
  · rw [if_pos e]; omega
  · rw [if_neg e]
    have b := pp_qd_b (n := pp_nd S a s) z.1 z.2 wd.1 (by omega) (by omega) (by omega)
    have r := pp_rt_is b.1 b.2
    have := r.1.1
    omega
/-- what planned() answers, by its number -/
noncomputable def pp_bp (S : mm_S) (a : Nat) (s w : Int) : Int := if w = 0 then S.A (a + 5) s else if w = 1 then pp_wt S a s else if w = 2 then pp_nd S a s else if w = 3 then pp_hd S a s else if w = 4 then (if pp_nd S a s < 0 then -1 else pp_nd S a s * S.A (a + 8) s + pp_rt (pp_qd (S.I a 11) (S.A (a + 9) s) (pp_nd S a s))) else (if pp_nd S a s < 0 then -1 else S.A (a + 1) (s * 7 + 1) * pp_hd S a s)
theorem c_byPlan {s w : Int} (hd : 4 ≤ d) (ha : a = 3 ∨ a = 14 ∨ a = 25) (hT : pp_NT S a) (hM : pp_TM S a) (h1 : 0 ≤ s) (h2 : s < S.I a 10) (h3 : -2147483648 ≤ w) (h4 : w < 2147483648) : mm_ev E d 52 [.ref (mm_ad B a), .int (mm_i s), .int (mm_i w)] (mm_hp B S c) = mm_oI (pp_bp S a s w) (mm_hp B S c) := by
  refine mm_v52 ha (by omega) (fun F e hF he => ?_)
  have hn := hT.1.1
  have nr := pp_nd_r hT.1 hM h1 h2
  have z := hT.1.2.1
  have wd := pp_NT_wd hT h1 h2
  rw [mm_e52_0, c_netOf (by omega) ha hT.1 hM h1 h2]
  simp (disch := omega) only [mm_hm, mm_br_eq, mm_br_le, mm_ptN]
  unfold pp_bp
  by_cases w0 : w = 0
  · rw [if_pos w0, if_pos w0]
  rw [if_neg w0, if_neg w0]
  by_cases w1 : w = 1
  · rw [if_pos w1, if_pos w1, c_waitOf (by omega) ha hT.1 hM h1 h2, mm_cI_ok]
  rw [if_neg w1, if_neg w1]
  by_cases w2 : w = 2
  · rw [if_pos w2, if_pos w2]
  rw [if_neg w2, if_neg w2]
  by_cases n0 : 0 ≤ pp_nd S a s
  · have n1 : ¬ pp_nd S a s < 0 := by omega
    have eh : pp_hd S a s = pp_rt (pp_qd (S.I a 11) (S.A (a + 9) s) (pp_nd S a s)) := by unfold pp_hd; rw [if_neg n1]
    simp only [if_pos n0, if_neg n1, eh]
    rw [c_rootBy (by omega) ha z h1 (by omega) ⟨wd.1, by omega⟩ ⟨n0, by omega⟩, mm_cI_ok]
    by_cases w3 : w = 3
    · rw [if_pos w3, if_pos w3]
    rw [if_neg w3, if_neg w3]
    by_cases w4 : w = 4
    · rw [if_pos w4, if_pos w4, c_boundBy (by omega) ha z h1 (by omega) ⟨wd.1, by omega⟩ ⟨n0, by omega⟩, mm_cI_ok]
    rw [if_neg w4, if_neg w4]
    simp (disch := omega) only [c_told, mm_hm]
    rw [c_rootBy (by omega) ha z h1 (by omega) ⟨wd.1, by omega⟩ ⟨n0, by omega⟩]
    simp only [mm_hm]
  · have n1 : pp_nd S a s < 0 := by omega
    have eh : pp_hd S a s = -1 := by unfold pp_hd; rw [if_pos n1]
    simp only [if_neg n0, if_pos n1, eh]
    by_cases w3 : w = 3
    · rw [if_pos w3, if_pos w3]
    rw [if_neg w3, if_neg w3]
    by_cases w4 : w = 4
    · rw [if_pos w4, if_pos w4]
    · rw [if_neg w4, if_neg w4]
theorem l_firstNot (hd : 3 ≤ d) (ha : a = 3 ∨ a = 14 ∨ a = 25) (hN : pp_NK S a) (hM : pp_TM S a) : ∀ (j n : Nat) (k : Int) (o2 o3 : Option Value), 0 ≤ k → S.I a 10 = k + j → 3 * j < n → mm_r53_2 E (mm_ev E d) n (mm_ad B a) (mm_i k) o2 o3 (mm_hp B S c) = mm_oI (pp_first (pp_rg S a) j k) (mm_hp B S c) := by
  have hn := hN.1
  intro j
  induction j with
  | zero =>
    intro n k o2 o3 k0 hk hj
    obtain ⟨n, rfl⟩ : ∃ m, n = m + 1 := ⟨n - 1, by omega⟩
    rw [mm_e53_2]
    simp (disch := omega) only [mm_ptN, mm_br_le]
    rw [if_pos (by omega)]
    rfl
  | succ j ih =>
    intro n k o2 o3 k0 hk hj
    obtain ⟨n, rfl⟩ : ∃ m, n = m + 3 := ⟨n - 3, by omega⟩
    have t := hN.2.2.2.2 k k0 (by omega)
    unfold pp_tR at t
    have nr := pp_nd_r hN hM k0 (by omega)
    have m := hM k k0 (by omega)
    rw [mm_e53_2]
    simp (disch := omega) only [mm_ptN, mm_br_le]
    rw [if_neg (by omega)]
    simp (disch := omega) only [c_told, mm_hm]
    rw [c_netOf (by omega) ha hN hM k0 (by omega)]
    simp (disch := omega) only [mm_hm, mm_br_lt, mm_br_eq, mm_e53_38, mm_e53_48, mm_ptN]
    show _ = mm_oI (if pp_rg S a k = true then pp_first (pp_rg S a) j (k + 1) else k) (mm_hp B S c)
    by_cases q : pp_rg S a k = true
    · have r := of_decide_eq_true q
      rw [if_pos q, if_neg (by omega)]
      by_cases e5 : S.A (a + 1) (k * 7 + 5) = -1
      · rw [if_pos e5]
        by_cases e6 : S.A (a + 1) (k * 7 + 6) = -1
        · rw [if_pos e6]
          exact ih _ _ _ _ (by omega) (by omega) (by omega)
        · rw [if_neg e6, if_pos (by omega)]
          exact ih _ _ _ _ (by omega) (by omega) (by omega)
      · rw [if_neg e5, if_neg (by omega)]
        by_cases e6 : S.A (a + 1) (k * 7 + 6) = -1
        · rw [if_pos e6]
          exact ih _ _ _ _ (by omega) (by omega) (by omega)
        · rw [if_neg e6, if_pos (by omega)]
          exact ih _ _ _ _ (by omega) (by omega) (by omega)
    · have r : ¬ _ := fun z => q (decide_eq_true z)
      rw [if_neg q]
      by_cases e0 : pp_nd S a k < 0
      · rw [if_pos e0]
      rw [if_neg e0]
      by_cases e5 : S.A (a + 1) (k * 7 + 5) = -1
      · rw [if_pos e5]
        by_cases e6 : S.A (a + 1) (k * 7 + 6) = -1
        · exact absurd ⟨by omega, by omega, by omega⟩ r
        · rw [if_neg e6]
          by_cases e7 : S.A (a + 5) k = S.A (a + 1) (k * 7 + 6)
          · exact absurd ⟨by omega, by omega, by omega⟩ r
          · rw [if_neg e7]
      · rw [if_neg e5]
        by_cases e8 : S.A (a + 1) (k * 7 + 5) < S.A (a + 5) k
        · rw [if_pos e8]
        rw [if_neg e8]
        by_cases e6 : S.A (a + 1) (k * 7 + 6) = -1
        · exact absurd ⟨by omega, by omega, by omega⟩ r
        · rw [if_neg e6]
          by_cases e7 : S.A (a + 5) k = S.A (a + 1) (k * 7 + 6)
          · exact absurd ⟨by omega, by omega, by omega⟩ r
          · rw [if_neg e7]
theorem c_firstNot (hd : 4 ≤ d) (ha : a = 3 ∨ a = 14 ∨ a = 25) (hN : pp_NK S a) (hM : pp_TM S a) : mm_ev E d 53 [.ref (mm_ad B a)] (mm_hp B S c) = mm_oI (pp_first (pp_rg S a) (S.I a 10).toNat 0) (mm_hp B S c) := by
  refine mm_v53 ha (by omega) (fun F e hF he => ?_)
  have hn := hN.1
  rw [mm_e53_0]
  exact l_firstNot (by omega) ha hN hM _ _ 0 _ _ (by omega) (by omega) (by omega)
theorem l_priceAt (hd : 4 ≤ d) (ha : a = 3 ∨ a = 14 ∨ a = 25) (hT : pp_NT S a) (hM : pp_TM S a) : ∀ (j k n : Nat), (S.I a 10).toNat = k + j → j < n → mm_r54_4 E (mm_ev E d) n (mm_ad B a) (mm_i (pp_sm (fun s => pp_bp S a s 5) k)) (mm_i k) (mm_hp B S c) = mm_oI (pp_sm (fun s => pp_bp S a s 5) (S.I a 10).toNat) (mm_hp B S c) := by
  have hn := hT.1.1
  intro j
  induction j with
  | zero =>
    intro k n hk hj
    obtain ⟨n, rfl⟩ : ∃ m, n = m + 1 := ⟨n - 1, by omega⟩
    rw [mm_e54_4]
    simp (disch := omega) only [mm_ptN, mm_br_le]
    rw [if_pos (by omega), show (S.I a 10).toNat = k from hk]
  | succ j ih =>
    intro k n hk hj
    obtain ⟨n, rfl⟩ : ∃ m, n = m + 1 := ⟨n - 1, by omega⟩
    have ih := ih (k + 1) n (by omega) (by omega)
    rw [Int.natCast_add, Int.natCast_one] at ih
    rw [mm_e54_4]
    simp (disch := omega) only [mm_ptN, mm_br_le]
    rw [if_neg (by omega), c_byPlan hd ha hT hM (by omega) (by omega) (by omega) (by omega)]
    simp only [mm_hm]
    exact ih
theorem c_priceAt (hd : 5 ≤ d) (ha : a = 3 ∨ a = 14 ∨ a = 25) (hT : pp_NT S a) (hM : pp_TM S a) : mm_ev E d 54 [.ref (mm_ad B a)] (mm_hp B S c) = mm_oI (pp_sm (fun s => pp_bp S a s 5) (S.I a 10).toNat) (mm_hp B S c) := by
  refine mm_v54 ha (by omega) (fun F e hF he => ?_)
  have hn := hT.1.1
  rw [mm_e54_0]
  exact l_priceAt (by omega) ha hT hM (S.I a 10).toNat 0 (F + 99) (by omega) (by omega)
/-- STAGES that hold something -/
noncomputable def pp_ho (S : mm_S) (a : Nat) : Nat → Int
  | 0 => 0
  | k + 1 => mm_ior (pp_ho S a k) (if 0 < pp_hd S a k then mm_pw k else 0)
theorem pp_ho_nn (S : mm_S) (a : Nat) : ∀ k, 0 ≤ pp_ho S a k
  | 0 => Int.le_refl 0
  | _ + 1 => mm_ior_nn _ _
theorem l_holding (hd : 4 ≤ d) (ha : a = 3 ∨ a = 14 ∨ a = 25) (hT : pp_NT S a) (hM : pp_TM S a) : ∀ (j k n : Nat), (S.I a 10).toNat = k + j → j < n → mm_r55_4 E (mm_ev E d) n (mm_ad B a) (mm_i (pp_ho S a k)) (mm_i k) (mm_hp B S c) = mm_oI (pp_ho S a (S.I a 10).toNat) (mm_hp B S c) := by
  have hn := hT.1.1
  intro j
  induction j with
  | zero =>
    intro k n hk hj
    obtain ⟨n, rfl⟩ : ∃ m, n = m + 1 := ⟨n - 1, by omega⟩
    rw [mm_e55_4]
    simp (disch := omega) only [mm_ptN, mm_br_le]
    rw [if_pos (by omega), show (S.I a 10).toNat = k from hk]
  | succ j ih =>
    intro k n hk hj
    obtain ⟨n, rfl⟩ : ∃ m, n = m + 1 := ⟨n - 1, by omega⟩
    have ih := ih (k + 1) n (by omega) (by omega)
    rw [Int.natCast_add, Int.natCast_one] at ih
    have hr := pp_hd_r hT hM (s := k) (by omega) (by omega)
    have z := pp_ho_nn S a k
    have z2 := mm_pw_nn k
    rw [mm_e55_4]
    simp (disch := omega) only [mm_ptN, mm_br_le]
    rw [if_neg (by omega), c_byPlan hd ha hT hM (by omega) (by omega) (by omega) (by omega), mm_cI_ok]
    have e : pp_bp S a k 3 = pp_hd S a k := by
      unfold pp_bp
      rw [if_neg (by omega), if_neg (by omega), if_neg (by omega), if_pos rfl]
    rw [e]
    simp (disch := omega) only [mm_br_le, mm_i_shl, mm_i_or, mm_hm]
    rw [← ih, pp_ho]
    by_cases f : pp_hd S a k ≤ 0
    · rw [if_pos f, if_neg (by omega)]
    · rw [if_neg f, if_pos (by omega)]
theorem c_holding (hd : 5 ≤ d) (ha : a = 3 ∨ a = 14 ∨ a = 25) (hT : pp_NT S a) (hM : pp_TM S a) : mm_ev E d 55 [.ref (mm_ad B a)] (mm_hp B S c) = mm_oI (pp_ho S a (S.I a 10).toNat) (mm_hp B S c) := by
  refine mm_v55 ha (by omega) (fun F e hF he => ?_)
  have hn := hT.1.1
  rw [mm_e55_0]
  exact l_holding (by omega) ha hT hM (S.I a 10).toNat 0 (F + 99) (by omega) (by omega)
-- the model
theorem m_isRight {s : Int} (hd : 5 ≤ d) (hN : pp_NK S a) (hR : pp_RL S a (S.A 102)) (hM : pp_TM S a) (hE : ∀ s : Int, 0 ≤ s → s < S.I a 10 → S.A 105 s = S.A (a + 5) s) (h1 : 0 ≤ s) (h2 : s < S.I a 10) : mm_ev E d 181 [.ref (mm_ad B 101), .int (mm_i s)] (mm_hp B S c) = mm_oI (mm_b1 (pp_rg S a s)) (mm_hp B S c) := by
  refine mm_v181 (by omega) (fun F e hF he => ?_)
  have hn := hN.1
  have t := hN.2.2.2.2 s h1 (by omega)
  unfold pp_tR at t
  have nr := pp_nd_r hN hM h1 h2
  have m := hM s h1 (by omega)
  have t5 := hR.2.2.2.1 s 5 h1 h2 (by omega) (by omega)
  have t6 := hR.2.2.2.1 s 6 h1 h2 (by omega) (by omega)
  have tt := hE s h1 h2
  rw [mm_e181_0, m_netOf (by omega) hN hR hM hE h1 h2]
  simp (disch := omega) only [mm_hm, mm_br_lt, mm_br_le, mm_br_eq, c_of, mm_ptM, t5, t6, tt, mm_e181_35, mm_bz0, mm_bz1]
  by_cases q : pp_rg S a s = true
  · have r := of_decide_eq_true q
    rw [q, if_neg (by omega)]
    by_cases e5 : S.A (a + 1) (s * 7 + 5) = -1
    · rw [if_pos e5]
      by_cases e6 : S.A (a + 1) (s * 7 + 6) = -1
      · rw [if_pos e6]; rfl
      · rw [if_neg e6, if_pos (by omega)]; rfl
    · rw [if_neg e5, if_pos (by omega)]
      by_cases e6 : S.A (a + 1) (s * 7 + 6) = -1
      · rw [if_pos e6]; rfl
      · rw [if_neg e6, if_pos (by omega)]; rfl
  · have r : ¬ _ := fun z => q (decide_eq_true z)
    rw [show pp_rg S a s = false by cases h : pp_rg S a s with
      | true => exact absurd h q
      | false => rfl]
    by_cases e0 : pp_nd S a s < 0
    · rw [if_pos e0]; rfl
    rw [if_neg e0]
    by_cases e5 : S.A (a + 1) (s * 7 + 5) = -1
    · rw [if_pos e5]
      by_cases e6 : S.A (a + 1) (s * 7 + 6) = -1
      · exact absurd ⟨by omega, by omega, by omega⟩ r
      · rw [if_neg e6]
        by_cases e7 : S.A (a + 5) s = S.A (a + 1) (s * 7 + 6)
        · exact absurd ⟨by omega, by omega, by omega⟩ r
        · rw [if_neg e7]; rfl
    · rw [if_neg e5]
      by_cases e8 : S.A (a + 5) s ≤ S.A (a + 1) (s * 7 + 5)
      · rw [if_pos e8]
        by_cases e6 : S.A (a + 1) (s * 7 + 6) = -1
        · exact absurd ⟨by omega, by omega, by omega⟩ r
        · rw [if_neg e6]
          by_cases e7 : S.A (a + 5) s = S.A (a + 1) (s * 7 + 6)
          · exact absurd ⟨by omega, by omega, by omega⟩ r
          · rw [if_neg e7]; rfl
      · rw [if_neg e8]; rfl
theorem l_firstWrong (hd : 5 ≤ d) (hN : pp_NK S a) (hR : pp_RL S a (S.A 102)) (hM : pp_TM S a) (hE : ∀ s : Int, 0 ≤ s → s < S.I a 10 → S.A 105 s = S.A (a + 5) s) : ∀ (j n : Nat) (k : Int), 0 ≤ k → S.I a 10 = k + j → j < n → mm_r182_2 E (mm_ev E d) n (mm_ad B 101) (mm_i k) (mm_hp B S c) = mm_oI (pp_first (pp_rg S a) j k) (mm_hp B S c) := by
  have hn := hN.1
  have r0 := hR.1
  intro j
  induction j with
  | zero =>
    intro n k k0 hk hj
    obtain ⟨n, rfl⟩ : ∃ m, n = m + 1 := ⟨n - 1, by omega⟩
    rw [mm_e182_2]
    simp (disch := omega) only [c_many, mm_hm, r0, mm_br_le]
    rw [if_pos (by omega)]
    rfl
  | succ j ih =>
    intro n k k0 hk hj
    obtain ⟨n, rfl⟩ : ∃ m, n = m + 1 := ⟨n - 1, by omega⟩
    rw [mm_e182_2]
    simp (disch := omega) only [c_many, mm_hm, r0, mm_br_le]
    rw [if_neg (by omega), m_isRight hd hN hR hM hE k0 (by omega)]
    simp only [mm_hm, mm_br_b1]
    show _ = mm_oI (if pp_rg S a k = true then pp_first (pp_rg S a) j (k + 1) else k) (mm_hp B S c)
    by_cases q : pp_rg S a k = true
    · rw [if_pos q, if_pos q]
      exact ih _ _ (by omega) (by omega) (by omega)
    · rw [if_neg q, if_neg q]
theorem m_firstWrong (hd : 6 ≤ d) (hN : pp_NK S a) (hR : pp_RL S a (S.A 102)) (hM : pp_TM S a) (hE : ∀ s : Int, 0 ≤ s → s < S.I a 10 → S.A 105 s = S.A (a + 5) s) : mm_ev E d 182 [.ref (mm_ad B 101)] (mm_hp B S c) = mm_oI (pp_first (pp_rg S a) (S.I a 10).toNat 0) (mm_hp B S c) := by
  refine mm_v182 (by omega) (fun F e hF he => ?_)
  have hn := hN.1
  rw [mm_e182_0]
  exact l_firstWrong (by omega) hN hR hM hE _ _ 0 (by omega) (by omega) (by omega)
theorem m_heldOf {s : Int} (hd : 17 ≤ d) (hT : pp_NT S a) (hR : pp_RL S a (S.A 102)) (hM : pp_TM S a) (hE : ∀ s : Int, 0 ≤ s → s < S.I a 10 → S.A 105 s = S.A (a + 5) s) (h1 : 0 ≤ s) (h2 : s < S.I a 10) : mm_ev E d 183 [.ref (mm_ad B 101), .int (mm_i s)] (mm_hp B S c) = mm_oI (pp_hd S a s) (mm_hp B S c) := by
  refine mm_v183 (by omega) (fun F e hF he => ?_)
  have nr := pp_nd_r hT.1 hM h1 h2
  rw [mm_e183_0, m_netOf (by omega) hT.1 hR hM hE h1 h2]
  simp (disch := omega) only [mm_hm, mm_br_le]
  unfold pp_hd
  by_cases e0 : 0 ≤ pp_nd S a s
  · rw [if_pos e0, if_neg (by omega), m_netOf (by omega) hT.1 hR hM hE h1 h2, mm_cI_ok, m_root hT hR (by omega) h1 h2 ⟨e0, by omega⟩, mm_cI_ok]
  · rw [if_neg e0, if_pos (by omega)]
theorem l_priceNow (hd : 17 ≤ d) (hT : pp_NT S a) (hR : pp_RL S a (S.A 102)) (hM : pp_TM S a) (hE : ∀ s : Int, 0 ≤ s → s < S.I a 10 → S.A 105 s = S.A (a + 5) s) : ∀ (j k n : Nat), (S.I a 10).toNat = k + j → j < n → mm_r184_4 E (mm_ev E d) n (mm_ad B 101) (mm_i (pp_sm (fun s => S.A (a + 1) (s * 7 + 1) * pp_hd S a s) k)) (mm_i k) (mm_hp B S c) = mm_oI (pp_sm (fun s => S.A (a + 1) (s * 7 + 1) * pp_hd S a s) (S.I a 10).toNat) (mm_hp B S c) := by
  have hn := hT.1.1
  have r0 := hR.1
  intro j
  induction j with
  | zero =>
    intro k n hk hj
    obtain ⟨n, rfl⟩ : ∃ m, n = m + 1 := ⟨n - 1, by omega⟩
    rw [mm_e184_4]
    simp (disch := omega) only [c_many, mm_hm, r0, mm_br_le]
    rw [if_pos (by omega), show (S.I a 10).toNat = k from hk]
  | succ j ih =>
    intro k n hk hj
    obtain ⟨n, rfl⟩ : ∃ m, n = m + 1 := ⟨n - 1, by omega⟩
    have ih := ih (k + 1) n (by omega) (by omega)
    rw [Int.natCast_add, Int.natCast_one] at ih
    rw [mm_e184_4]
    simp (disch := omega) only [c_many, mm_hm, r0, mm_br_le, c_of]
    rw [if_neg (by omega), m_heldOf hd hT hR hM hE (by omega) (by omega), hR.2.2.2.1 k 1 (by omega) (by omega) (by omega) (by omega)]
    simp only [mm_hm]
    exact ih
theorem m_priceNow (hd : 18 ≤ d) (hT : pp_NT S a) (hR : pp_RL S a (S.A 102)) (hM : pp_TM S a) (hE : ∀ s : Int, 0 ≤ s → s < S.I a 10 → S.A 105 s = S.A (a + 5) s) : mm_ev E d 184 [.ref (mm_ad B 101)] (mm_hp B S c) = mm_oI (pp_sm (fun s => S.A (a + 1) (s * 7 + 1) * pp_hd S a s) (S.I a 10).toNat) (mm_hp B S c) := by
  refine mm_v184 (by omega) (fun F e hF he => ?_)
  have hn := hT.1.1
  rw [mm_e184_0]
  exact l_priceNow (by omega) hT hR hM hE (S.I a 10).toNat 0 (F + 99) (by omega) (by omega)
/-- where all holds both sums are the same -/
theorem pp_price_eq (hn : 0 ≤ S.I a 10) (h : pp_first (pp_rg S a) (S.I a 10).toNat 0 = -1) : pp_sm (fun s => pp_bp S a s 5) (S.I a 10).toNat = pp_sm (fun s => S.A (a + 1) (s * 7 + 1) * pp_hd S a s) (S.I a 10).toNat := by
  refine pp_sm_congr _ (fun s s1 s2 => ?_)
  have q := of_decide_eq_true (pp_first_all _ 0 (by omega) h s s1 (by omega))
  unfold pp_bp
  rw [if_neg (by omega), if_neg (by omega), if_neg (by omega), if_neg (by omega), if_neg (by omega), if_neg (by omega)]
end PLAN
