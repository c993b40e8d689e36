/-! PLANS BY RULE: 0 and 3 -/
/-- g for the first k, f for others -/
def pp_fl (g f : Int → Int) (k : Int) : Int → Int := fun s => if 0 ≤ s ∧ s < k then g s else f s
theorem pp_fl_0 (g f : Int → Int) : pp_fl g f 0 = f := by
  funext s
  unfold pp_fl
  rw [if_neg (by omega)]
theorem pp_fl_in {g f : Int → Int} {k s : Int} (h1 : 0 ≤ s) (h2 : s < k) : pp_fl g f k s = g s := if_pos ⟨h1, h2⟩
theorem pp_fl_out {g f : Int → Int} {k s : Int} (h : ¬ (0 ≤ s ∧ s < k)) : pp_fl g f k s = f s := if_neg h
theorem pp_fl_st {g f : Int → Int} {k : Int} (h : 0 ≤ k) : mm_u (pp_fl g f k) k (g k) = pp_fl g f (k + 1) := by
  funext s
  unfold mm_u pp_fl
  by_cases e : s = k
  · rw [if_pos e, if_pos (by omega), e]
  · rw [if_neg e]
    by_cases f : 0 ≤ s ∧ s < k
    · rw [if_pos f, if_pos (by omega)]
    · rw [if_neg f, if_neg (by omega)]
section RULES
variable {E : mm_E} {d B : Nat} {S : mm_S} {c : mm_N} {a : Nat}
theorem l_zero (ha : a = 3 ∨ a = 14 ∨ a = 25) (hn : 0 ≤ S.I a 10 ∧ S.I a 10 ≤ 12) {cl : mm_F} {τ : Int → Int} : ∀ (j k n : Nat), (S.I a 10).toNat = k + j → j < n → mm_r56_2 E cl n (mm_ad B a) (mm_i k) (mm_hp B (S.sA (a + 5) (pp_fl (fun _ => 0) τ k)) c) = mm_oV (mm_hp B (S.sA (a + 5) (pp_fl (fun _ => 0) τ (S.I a 10))) c) := by
  intro j
  induction j with
  | zero =>
    intro k n hk hj
    obtain ⟨n, rfl⟩ : ∃ m, n = m + 1 := ⟨n - 1, by omega⟩
    rw [mm_e56_2]
    simp (disch := omega) only [mm_ptN, mm_gs, mm_br_le]
    rw [if_pos (by omega), show S.I a 10 = (k : Int) by omega]
  | succ j ih =>
    intro k n hk hj
    obtain ⟨n, rfl⟩ : ∃ m, n = m + 1 := ⟨n - 1, by omega⟩
    have ih := ih (k + 1) n (by omega) (by omega)
    rw [Int.natCast_add, Int.natCast_one] at ih
    rw [mm_e56_2]
    simp (disch := omega) only [mm_ptN, mm_gs, mm_br_le, mm_hm]
    rw [if_neg (by omega), ← ih, ← pp_fl_st (by omega)]
theorem c_planZero (hd : 1 ≤ d) (ha : a = 3 ∨ a = 14 ∨ a = 25) (hn : 0 ≤ S.I a 10 ∧ S.I a 10 ≤ 12) : mm_ev E d 56 [.ref (mm_ad B a)] (mm_hp B S c) = mm_oV (mm_hp B (S.sA (a + 5) (pp_fl (fun _ => 0) (S.A (a + 5)) (S.I a 10))) c) := by
  refine mm_v56 ha (by omega) (fun F e hF he => ?_)
  rw [mm_e56_0]
  have l := l_zero (E := E) (B := B) (S := S) (c := c) (cl := mm_ev E e) (τ := S.A (a + 5)) ha hn (S.I a 10).toNat 0 (F + 99) (by omega) (by omega)
  rw [Int.natCast_zero, pp_fl_0, pp_sA_id] at l
  exact l
/-- half of LAZY, but a PIN itself -/
def pp_hf (T τ : Int → Int) (s : Int) : Int := if T (s * 7 + 6) = -1 then τ s / 2 else T (s * 7 + 6)
theorem l_half (hd : 1 ≤ d) (ha : a = 3 ∨ a = 14 ∨ a = 25) (hN : pp_NK S a) {τ : Int → Int} (hτ : ∀ s : Int, 0 ≤ s → s < 12 → 0 ≤ τ s ∧ τ s ≤ 119) : ∀ (j k n : Nat), (S.I a 10).toNat = k + j → j < n → mm_r58_6 E (mm_ev E d) n (mm_ad B a) (mm_i k) (mm_hp B (S.sA (a + 5) (pp_fl (pp_hf (S.A (a + 1)) τ) τ k)) c) = mm_oV (mm_hp B (S.sA (a + 5) (pp_fl (pp_hf (S.A (a + 1)) τ) τ (S.I a 10))) c) := by
  have hn := hN.1
  intro j
  induction j with
  | zero =>
    intro k n hk hj
    obtain ⟨n, rfl⟩ : ∃ m, n = m + 1 := ⟨n - 1, by omega⟩
    rw [mm_e58_6]
    simp (disch := omega) only [mm_ptN, mm_gs, mm_br_le]
    rw [if_pos (by omega), show S.I a 10 = (k : Int) by omega]
  | succ j ih =>
    intro k n hk hj
    obtain ⟨n, rfl⟩ : ∃ m, n = m + 1 := ⟨n - 1, by omega⟩
    have ih := ih (k + 1) n (by omega) (by omega)
    rw [Int.natCast_add, Int.natCast_one] at ih
    have t := hN.2.2.2.2 k (by omega) (by omega)
    unfold pp_tR at t
    have tk := hτ k (by omega) (by omega)
    have ef : pp_fl (pp_hf (S.A (a + 1)) τ) τ k k = τ k := pp_fl_out (by omega)
    rw [mm_e58_6]
    simp (disch := omega) only [mm_ptN, mm_gs, mm_br_le]
    rw [if_neg (by omega), ← ih, ← pp_fl_st (by omega)]
    simp (disch := omega) only [mm_hm, c_told, mm_gs, pp_ne, mm_br_eq, mm_ptN, mm_nz_i, ef, mm_i_div]
    unfold pp_hf
    by_cases e6 : S.A (a + 1) ((k : Int) * 7 + 6) = -1
    · simp only [if_pos e6]
    · simp only [if_neg e6]
theorem c_planHalf (hd : 5 ≤ d) (ha : a = 3 ∨ a = 14 ∨ a = 25) (hT : pp_NT S a) (hM : pp_TM S a) : ∃ τ, pp_ISL (S.I a 10) (S.A (a + 1)) (pp_Wf (S.I a 10) (S.A (a + 3))) (S.A (a + 5)) τ ∧ mm_ev E d 58 [.ref (mm_ad B a)] (mm_hp B S c) = mm_oV (mm_hp B (S.sA (a + 5) (pp_fl (pp_hf (S.A (a + 1)) τ) τ (S.I a 10))) c) := by
  obtain ⟨e, rfl⟩ : ∃ e, d = e + 1 := ⟨d - 1, by omega⟩
  obtain ⟨F, hF, h⟩ := mm_w58 E e B S c a ha
  obtain ⟨τ, q1, q2⟩ := c_lazily (E := E) (d := e) (B := B) (c := c) (by omega) ha hT hM
  have hn := hT.1.1
  refine ⟨τ, q1, ?_⟩
  have hτ : ∀ s : Int, 0 ≤ s → s < 12 → 0 ≤ τ s ∧ τ s ≤ 119 := fun s s1 s2 => by
    by_cases g : s < S.I a 10
    · have := q1.1 s s1 g; omega
    · rw [q1.2 s (by omega)]; exact hM s s1 s2
  have l := l_half (E := E) (d := e) (B := B) (S := S) (c := c) (τ := τ) (by omega) ha hT.1 hτ (S.I a 10).toNat 0 (F + 99) (by omega) (by omega)
  rw [Int.natCast_zero, pp_fl_0] at l
  rw [h, mm_e58_0, q2, mm_cV_ok]
  exact l
-- the model
theorem l_halfM (hd : 1 ≤ d) (ha : a = 3 ∨ a = 14 ∨ a = 25) (hN : pp_NK S a) (hR : pp_RL S a (S.A 102)) {τ : Int → Int} (hτ : ∀ s : Int, 0 ≤ s → s < 12 → 0 ≤ τ s ∧ τ s ≤ 119) : ∀ (j k n : Nat), (S.I a 10).toNat = k + j → j < n → mm_r189_6 E (mm_ev E d) n (mm_ad B 101) (mm_i k) (mm_hp B (S.sA 105 (pp_fl (pp_hf (S.A (a + 1)) τ) τ k)) c) = mm_oV (mm_hp B (S.sA 105 (pp_fl (pp_hf (S.A (a + 1)) τ) τ (S.I a 10))) c) := by
  have hn := hN.1
  have r0 := hR.1
  intro j
  induction j with
  | zero =>
    intro k n hk hj
    obtain ⟨n, rfl⟩ : ∃ m, n = m + 1 := ⟨n - 1, by omega⟩
    rw [mm_e189_6, c_many (by omega), mm_cI_ok, mm_gA_ne (by omega), r0, mm_br_le (by omega) (by omega) (by omega) (by omega), if_pos (by omega), show S.I a 10 = (k : Int) by omega]
  | succ j ih =>
    intro k n hk hj
    obtain ⟨n, rfl⟩ : ∃ m, n = m + 1 := ⟨n - 1, by omega⟩
    have ih := ih (k + 1) n (by omega) (by omega)
    rw [Int.natCast_add, Int.natCast_one] at ih
    have t := hN.2.2.2.2 k (by omega) (by omega)
    unfold pp_tR at t
    have t6 := hR.2.2.2.1 k 6 (by omega) (by omega) (by omega) (by omega)
    have tk := hτ k (by omega) (by omega)
    have ef : pp_fl (pp_hf (S.A (a + 1)) τ) τ k k = τ k := pp_fl_out (by omega)
    rw [mm_e189_6, c_many (by omega), mm_cI_ok, mm_gA_ne (by omega), r0, mm_br_le (by omega) (by omega) (by omega) (by omega), if_neg (by omega), ← ih, ← pp_fl_st (by omega)]
    simp (disch := omega) only [mm_hm, c_of, mm_gs, pp_ne, t6, mm_br_eq, mm_ptM, mm_nz_i, ef, mm_i_div]
    unfold pp_hf
    by_cases e6 : S.A (a + 1) ((k : Int) * 7 + 6) = -1
    · simp only [if_pos e6]
    · simp only [if_neg e6]
theorem m_halves (hd : 6 ≤ d) (ha : a = 3 ∨ a = 14 ∨ a = 25) (hT : pp_NT S a) (hR : pp_RL S a (S.A 102)) (hM : ∀ s : Int, 0 ≤ s → s < 12 → 0 ≤ S.A 105 s ∧ S.A 105 s ≤ 119) : ∃ τ, pp_ISL (S.I a 10) (S.A (a + 1)) (pp_Wf (S.I a 10) (S.A (a + 3))) (S.A 105) τ ∧ mm_ev E d 189 [.ref (mm_ad B 101)] (mm_hp B S c) = mm_oV (mm_hp B (S.sA 105 (pp_fl (pp_hf (S.A (a + 1)) τ) τ (S.I a 10))) c) := by
  obtain ⟨e, rfl⟩ : ∃ e, d = e + 1 := ⟨d - 1, by omega⟩
  obtain ⟨F, hF, h⟩ := mm_w189 E e B S c
  obtain ⟨τ, q1, q2⟩ := m_lazy (E := E) (d := e) (B := B) (c := c) (by omega) ha hT hR hM
  have hn := hT.1.1
  refine ⟨τ, q1, ?_⟩
  have hτ : ∀ s : Int, 0 ≤ s → s < 12 → 0 ≤ τ s ∧ τ s ≤ 119 := fun s s1 s2 => by
    by_cases g : s < S.I a 10
    · have := q1.1 s s1 g; omega
    · rw [q1.2 s (by omega)]; exact hM s s1 s2
  have l := l_halfM (E := E) (d := e) (B := B) (S := S) (c := c) (τ := τ) (by omega) ha hT.1 hR hτ (S.I a 10).toNat 0 (F + 99) (by omega) (by omega)
  rw [Int.natCast_zero, pp_fl_0] at l
  rw [h, mm_e189_0, q2, mm_cV_ok]
  exact l
-- ahead in a chain
/-- of those of p below k the first of the greatest L; -1: none -/
def pp_ac (p : Int → Bool) (L : Int → Int) : Nat → Int
  | 0 => -1
  | k + 1 => if p k = true then (if pp_ac p L k = -1 then k else if L k ≤ L (pp_ac p L k) then pp_ac p L k else k) else pp_ac p L k
theorem pp_ac_r (p : Int → Bool) (L : Int → Int) : ∀ k : Nat, pp_ac p L k = -1 ∨ (0 ≤ pp_ac p L k ∧ pp_ac p L k < k ∧ p (pp_ac p L k) = true)
  | 0 => Or.inl rfl
  | k + 1 => by
    have i := pp_ac_r p L k
    have e : pp_ac p L (k + 1) = if p k = true then (if pp_ac p L k = -1 then (k : Int) else if L k ≤ L (pp_ac p L k) then pp_ac p L k else (k : Int)) else pp_ac p L k := rfl
    have ik : pp_ac p L k = -1 ∨ (0 ≤ pp_ac p L k ∧ pp_ac p L k < ((k + 1 : Nat) : Int) ∧ p (pp_ac p L k) = true) := i.imp id (fun h => ⟨h.1, by omega, h.2.2⟩)
    by_cases c : p k = true
    · rw [if_pos c] at e
      have kk : pp_ac p L (k + 1) = k → pp_ac p L (k + 1) = -1 ∨ (0 ≤ pp_ac p L (k + 1) ∧ pp_ac p L (k + 1) < ((k + 1 : Nat) : Int) ∧ p (pp_ac p L (k + 1)) = true) := fun h => by rw [h]; exact Or.inr ⟨by omega, by omega, c⟩
      by_cases f : pp_ac p L k = -1
      · rw [if_pos f] at e; exact kk e
      · rw [if_neg f] at e
        by_cases g : L k ≤ L (pp_ac p L k)
        · rw [if_pos g] at e; rw [e]; exact ik
        · rw [if_neg g] at e; exact kk e
    · rw [if_neg c] at e
      rw [e]; exact ik
/-- the next of a CHAIN -/
def pp_nx (S : mm_S) (a : Nat) (s : Int) : Int := if pp_ac (fun k => pp_Wf (S.I a 10) (S.A (a + 3)) k s) (S.A (a + 10)) (S.I a 10).toNat = -1 then -1 else if S.A (a + 10) (pp_ac (fun k => pp_Wf (S.I a 10) (S.A (a + 3)) k s) (S.A (a + 10)) (S.I a 10).toNat) + S.A (a + 1) (s * 7 + 0) = S.A (a + 10) s then pp_ac (fun k => pp_Wf (S.I a 10) (S.A (a + 3)) k s) (S.A (a + 10)) (S.I a 10).toNat else -1
theorem l_ahead {s : Int} (hd : 1 ≤ d) (ha : a = 3 ∨ a = 14 ∨ a = 25) (hT : pp_NT S a) (h1 : 0 ≤ s) (h2 : s < S.I a 10) : ∀ (j k n : Nat), (S.I a 10).toNat = k + j → 2 * j + 3 < n → mm_r60_4 E (mm_ev E d) n (mm_ad B a) (mm_i s) (mm_i (pp_ac (fun k => pp_Wf (S.I a 10) (S.A (a + 3)) k s) (S.A (a + 10)) k)) (mm_i k) (mm_hp B S c) = mm_oI (pp_nx S a s) (mm_hp B S c) := by
  have hn := hT.1.1
  have hL := hT.2.2.2.2.2.2.2
  have t := hT.1.2.2.2.2 s h1 (by omega)
  unfold pp_tR at t
  have b0 := hT.1.2.2.1 s h1 (by omega)
  intro j
  induction j with
  | zero =>
    intro k n hk hj
    obtain ⟨n, rfl⟩ : ∃ m, n = m + 3 := ⟨n - 3, by omega⟩
    have r := pp_ac_r (fun k => pp_Wf (S.I a 10) (S.A (a + 3)) k s) (S.A (a + 10)) k
    unfold pp_nx
    rw [show (S.I a 10).toNat = k from hk]
    generalize pp_ac (fun k => pp_Wf (S.I a 10) (S.A (a + 3)) k s) (S.A (a + 10)) k = v at *
    rw [mm_e60_4]
    simp (disch := omega) only [mm_ptN, mm_br_le, mm_br_eq, mm_e60_80, mm_e60_82]
    rw [if_pos (by omega)]
    by_cases e : v = -1
    · rw [if_pos e, if_pos e, mm_br_t trivial]
    · rw [if_neg e, if_neg e]
      have l1 := hL v (by omega) (by omega)
      have l2 := hL s h1 (by omega)
      simp (disch := omega) only [mm_ptN, c_told, mm_hm, mm_br_eq, mm_e60_80, mm_e60_82]
      by_cases f : S.A (a + 10) v + S.A (a + 1) (s * 7 + 0) = S.A (a + 10) s
      · rw [if_pos f, if_pos f, if_neg (by omega)]
      · rw [if_neg f, if_neg f, mm_br_t trivial]
  | succ j ih =>
    intro k n hk hj
    obtain ⟨n, rfl⟩ : ∃ m, n = m + 2 := ⟨n - 2, by omega⟩
    have r := pp_ac_r (fun k => pp_Wf (S.I a 10) (S.A (a + 3)) k s) (S.A (a + 10)) k
    have ih1 := ih (k + 1) (n + 1) (by omega) (by omega)
    have ih2 := ih (k + 1) n (by omega) (by omega)
    rw [Int.natCast_add, Int.natCast_one] at ih1 ih2
    have e0 : mm_bt (S.A (a + 3) s) k = pp_Wf (S.I a 10) (S.A (a + 3)) k s := (pp_Wf_eq ⟨by omega, by omega, h1, h2⟩).symm
    rw [mm_e60_4]
    simp (disch := omega) only [mm_ptN, mm_br_le, c_supplies, mm_hm, mm_br_b1, mm_br_eq]
    rw [if_neg (by omega), e0]
    rw [pp_ac] at ih1 ih2
    generalize pp_ac (fun k => pp_Wf (S.I a 10) (S.A (a + 3)) k s) (S.A (a + 10)) k = v at *
    by_cases f : pp_Wf (S.I a 10) (S.A (a + 3)) k s = true
    · rw [if_pos f]
      rw [if_pos f] at ih1 ih2
      by_cases g : v = -1
      · rw [if_pos g]
        rw [if_pos g] at ih1
        exact ih1
      · rw [if_neg g]
        rw [if_neg g] at ih2
        have l1 := hL v (by omega) (by omega)
        have l2 := hL k (by omega) (by omega)
        simp (disch := omega) only [mm_e60_26, mm_ptN, mm_br_le, mm_hm]
        by_cases q : S.A (a + 10) k ≤ S.A (a + 10) v
        · rw [if_pos q]
          rw [if_pos q] at ih2
          exact ih2
        · rw [if_neg q]
          rw [if_neg q] at ih2
          exact ih2
    · rw [if_neg f]
      rw [if_neg f] at ih1
      exact ih1
theorem c_ahead {s : Int} (hd : 2 ≤ d) (ha : a = 3 ∨ a = 14 ∨ a = 25) (hT : pp_NT S a) (h1 : 0 ≤ s) (h2 : s < S.I a 10) : mm_ev E d 60 [.ref (mm_ad B a), .int (mm_i s)] (mm_hp B S c) = mm_oI (pp_nx S a s) (mm_hp B S c) := by
  refine mm_v60 ha (by omega) (fun F e hF he => ?_)
  have hn := hT.1.1
  rw [mm_e60_0]
  exact l_ahead (by omega) ha hT h1 h2 (S.I a 10).toNat 0 (F + 99) (by omega) (by omega)
theorem l_aheadM {s : Int} (hd : 15 ≤ d) (hT : pp_NT S a) (hR : pp_RL S a (S.A 102)) (h1 : 0 ≤ s) (h2 : s < S.I a 10) : ∀ (j k n : Nat), (S.I a 10).toNat = k + j → 2 * j + 3 < n → mm_r223_4 E (mm_ev E d) n (mm_ad B 101) (mm_i s) (mm_i (pp_ac (fun k => pp_Wf (S.I a 10) (S.A (a + 3)) k s) (S.A (a + 10)) k)) (mm_i k) (mm_hp B S c) = mm_oI (pp_nx S a s) (mm_hp B S c) := by
  have hn := hT.1.1
  have hL := hT.2.2.2.2.2.2.2
  have r0 := hR.1
  have hP := hR.2.2.1
  have cr := mm_sup_r s hP
  have t := hT.1.2.2.2.2 s h1 (by omega)
  unfold pp_tR at t
  intro j
  induction j with
  | zero =>
    intro k n hk hj
    obtain ⟨n, rfl⟩ : ∃ m, n = m + 3 := ⟨n - 3, by omega⟩
    have r := pp_ac_r (fun k => pp_Wf (S.I a 10) (S.A (a + 3)) k s) (S.A (a + 10)) k
    unfold pp_nx
    rw [show (S.I a 10).toNat = k from hk]
    generalize pp_ac (fun k => pp_Wf (S.I a 10) (S.A (a + 3)) k s) (S.A (a + 10)) k = v at *
    rw [mm_e223_4]
    simp (disch := omega) only [c_many, mm_hm, r0, mm_br_le, mm_br_eq]
    rw [if_pos (by omega)]
    by_cases e : v = -1
    · rw [if_pos e, if_pos e]
    · rw [if_neg e, if_neg e]
      have l1 := hL v (by omega) (by omega)
      have l2 := hL s h1 (by omega)
      rw [m_longest hT hR hd (by omega) (by omega), mm_cI_ok, c_of (by omega) h1 (by omega) (by omega) (by omega), mm_cI_ok, m_longest hT hR hd h1 h2, mm_cI_ok, hR.2.2.2.1 s 0 h1 h2 (by omega) (by omega)]
      simp (disch := omega) only [mm_hm, mm_br_eq]
      by_cases f : S.A (a + 10) v + S.A (a + 1) (s * 7 + 0) = S.A (a + 10) s
      · rw [if_pos f, if_pos f]
      · rw [if_neg f, if_neg f]
  | succ j ih =>
    intro k n hk hj
    obtain ⟨n, rfl⟩ : ∃ m, n = m + 2 := ⟨n - 2, by omega⟩
    have r := pp_ac_r (fun k => pp_Wf (S.I a 10) (S.A (a + 3)) k s) (S.A (a + 10)) k
    have ih1 := ih (k + 1) (n + 1) (by omega) (by omega)
    have ih2 := ih (k + 1) n (by omega) (by omega)
    rw [Int.natCast_add, Int.natCast_one] at ih1 ih2
    rw [mm_e223_4]
    simp (disch := omega) only [c_many, mm_hm, r0, mm_br_le, mm_br_eq]
    rw [if_neg (by omega), c_suppliersOf (by omega) hP (by omega) (by omega), mm_cI_ok, c_isOf (by omega) cr.1 (by omega) (by omega), mm_cI_ok, mm_br_b1, (hR.2.2.2.2.1 k s (by omega) (by omega) h1 (by omega)).1]
    rw [pp_ac] at ih1 ih2
    generalize pp_ac (fun k => pp_Wf (S.I a 10) (S.A (a + 3)) k s) (S.A (a + 10)) k = v at *
    by_cases f : pp_Wf (S.I a 10) (S.A (a + 3)) k s = true
    · rw [if_pos f]
      rw [if_pos f] at ih1 ih2
      by_cases g : v = -1
      · rw [if_pos g]
        rw [if_pos g] at ih1
        exact ih1
      · rw [if_neg g]
        rw [if_neg g] at ih2
        have l1 := hL v (by omega) (by omega)
        have l2 := hL k (by omega) (by omega)
        rw [mm_e223_29, m_longest hT hR hd (by omega) (by omega), mm_cI_ok, m_longest hT hR hd (by omega) (by omega), mm_cI_ok]
        simp (disch := omega) only [mm_br_le, mm_hm]
        by_cases q : S.A (a + 10) k ≤ S.A (a + 10) v
        · rw [if_pos q]
          rw [if_pos q] at ih2
          exact ih2
        · rw [if_neg q]
          rw [if_neg q] at ih2
          exact ih2
    · rw [if_neg f]
      rw [if_neg f] at ih1
      exact ih1
theorem m_ahead {s : Int} (hd : 16 ≤ d) (hT : pp_NT S a) (hR : pp_RL S a (S.A 102)) (h1 : 0 ≤ s) (h2 : s < S.I a 10) : mm_ev E d 223 [.ref (mm_ad B 101), .int (mm_i s)] (mm_hp B S c) = mm_oI (pp_nx S a s) (mm_hp B S c) := by
  refine mm_v223 (by omega) (fun F e hF he => ?_)
  have hn := hT.1.1
  rw [mm_e223_0]
  exact l_aheadM (by omega) hT hR h1 h2 (S.I a 10).toNat 0 (F + 99) (by omega) (by omega)
end RULES
