/-! A NETWORK SETTLED: order, LONGEST, FLOW, WIDTH -/
/-- what is told of a stage is in its bounds -/
def pp_tR (T : Int → Int) (s : Int) : Prop := (0 ≤ T (s * 7 + 0) ∧ T (s * 7 + 0) ≤ 9) ∧ (0 ≤ T (s * 7 + 1) ∧ T (s * 7 + 1) ≤ 999) ∧ (0 ≤ T (s * 7 + 2) ∧ T (s * 7 + 2) ≤ 9) ∧ (0 ≤ T (s * 7 + 3) ∧ T (s * 7 + 3) ≤ 99) ∧ (0 ≤ T (s * 7 + 4) ∧ T (s * 7 + 4) ≤ 9999) ∧ (-1 ≤ T (s * 7 + 5) ∧ T (s * 7 + 5) ≤ 21) ∧ (-1 ≤ T (s * 7 + 6) ∧ T (s * 7 + 6) ≤ 119)
def pp_bR (f : Int → Int) : Prop := ∀ s : Int, 0 ≤ s → s < 12 → 0 ≤ f s ∧ f s < 4096
/-- the numbers of a Net are in their bounds -/
def pp_NK (S : mm_S) (a : Nat) : Prop := (0 ≤ S.I a 10 ∧ S.I a 10 ≤ 12) ∧ (0 ≤ S.I a 11 ∧ S.I a 11 ≤ 400) ∧ pp_bR (S.A (a + 3)) ∧ pp_bR (S.A (a + 4)) ∧ (∀ s : Int, 0 ≤ s → s < 12 → pp_tR (S.A (a + 1)) s)
/-- who supplies whom, by the sets of suppliers -/
def pp_Wf (n : Int) (sp : Int → Int) : pp_W := fun i j => decide (0 ≤ i ∧ i < n ∧ 0 ≤ j ∧ j < n) && mm_bt (sp j) i
theorem pp_Wf_in (n : Int) (sp : Int → Int) : pp_IN n (pp_Wf n sp) := fun i j h => of_decide_eq_true (Bool.and_eq_true_iff.mp h).1
theorem pp_Wf_eq {n : Int} {sp : Int → Int} {i j : Int} (h : 0 ≤ i ∧ i < n ∧ 0 ≤ j ∧ j < n) : pp_Wf n sp i j = mm_bt (sp j) i := by
  unfold pp_Wf
  rw [decide_eq_true h, Bool.true_and]
/-- an order with suppliers ahead -/
def pp_OR (n : Int) (W : pp_W) (ord : Int → Int) : Prop := (∀ i : Int, 0 ≤ i → i < n → 0 ≤ ord i ∧ ord i < n) ∧ (∀ i k : Int, 0 ≤ i → i < k → k < n → ord i ≠ ord k) ∧ (∀ i j : Int, 0 ≤ i → i < n → W j (ord i) = true → ∃ k : Int, 0 ≤ k ∧ k < i ∧ ord k = j) ∧ (∀ s : Int, 0 ≤ s → s < n → ∃ i : Int, 0 ≤ i ∧ i < n ∧ ord i = s)
/-- LONGEST, FLOW as they are told -/
def pp_LQ (n : Int) (T : Int → Int) (W : pp_W) (L : Int → Int) : Prop := ∀ s : Int, 0 ≤ s → s < n → L s = pp_gx (T (s * 7 + 2)) (fun k => W k s) L n.toNat + T (s * 7 + 0)
def pp_FQ (n : Int) (g : Int → Int) (W : pp_W) (G : Int → Int) : Prop := ∀ s : Int, 0 ≤ s → s < n → G s = g s + pp_sm (fun k => if W s k = true then G k else 0) n.toNat
section SETTLE
variable {E : mm_E} {d B : Nat} {S : mm_S} {c : mm_N} {a : Nat}
theorem l_settleLongest {s : Int} (hd : 1 ≤ d) (ha : a = 3 ∨ a = 14 ∨ a = 25) (hN : pp_NK S a) (h1 : 0 ≤ s) (h2 : s < S.I a 10) (hL : ∀ k : Int, 0 ≤ k → k < 12 → 0 ≤ S.A (a + 10) k ∧ S.A (a + 10) k ≤ 200) (hv : pp_gx (S.A (a + 1) (s * 7 + 2)) (fun k => mm_bt (S.A (a + 3) s) k) (S.A (a + 10)) (S.I a 10).toNat + S.A (a + 1) (s * 7 + 0) ≤ 119) : ∀ (j k n : Nat), (S.I a 10).toNat = k + j → j < n → mm_r45_9 E (mm_ev E d) n (mm_ad B a) (mm_i s) (mm_i (pp_gx (S.A (a + 1) (s * 7 + 2)) (fun k => mm_bt (S.A (a + 3) s) k) (S.A (a + 10)) k)) (mm_i k) (mm_hp B S c)
    = mm_oV (mm_hp B (S.sA (a + 10) (mm_u (S.A (a + 10)) s (pp_gx (S.A (a + 1) (s * 7 + 2)) (fun k => mm_bt (S.A (a + 3) s) k) (S.A (a + 10)) (S.I a 10).toNat + S.A (a + 1) (s * 7 + 0)))) c) := by
  obtain ⟨⟨n0, n1⟩, -, hS, -, hT⟩ := hN
  have t0 := hT s h1 (by omega)
  unfold pp_tR at t0
  have b0 := hS s h1 (by omega)
  intro j
  induction j with
  | zero =>
    intro k n hk hn
    obtain ⟨n, rfl⟩ : ∃ m, n = m + 1 := ⟨n - 1, by omega⟩
    rw [mm_e45_9]
    simp (disch := omega) only [mm_ptN, mm_br_le]
    rw [if_pos (by omega)]
    rw [show (S.I a 10).toNat = k from hk] at hv
    have q1 := pp_gx_ge (S.A (a + 1) (s * 7 + 2)) (fun k => mm_bt (S.A (a + 3) s) k) (S.A (a + 10)) k
    simp (disch := omega) only [mm_ptN, c_told, mm_hm, mm_i_mn]
    rw [show (S.I a 10).toNat = k from hk, Int.min_eq_left hv]
  | succ j ih =>
    intro k n hk hn
    obtain ⟨n, rfl⟩ : ∃ m, n = m + 1 := ⟨n - 1, by omega⟩
    have ih := ih (k + 1) n (by omega) (by omega)
    rw [Int.natCast_add, Int.natCast_one] at ih
    have l0 := hL k (by omega) (by omega)
    have q1 := pp_gx_ge (S.A (a + 1) (s * 7 + 2)) (fun k => mm_bt (S.A (a + 3) s) k) (S.A (a + 10)) k
    have q2 := pp_gx_le (b := S.A (a + 1) (s * 7 + 2)) (p := fun k => mm_bt (S.A (a + 3) s) k) (g := S.A (a + 10)) (m := 200) k (by omega) (fun i h3 h4 _ => (hL i h3 (by omega)).2)
    rw [mm_e45_9]
    simp (disch := omega) only [mm_ptN, mm_br_le]
    rw [if_neg (by omega)]
    simp (disch := omega) only [c_supplies, mm_hm, mm_br_b1, mm_ptN, mm_i_mx]
    rw [← ih, pp_gx]
    by_cases h : mm_bt (S.A (a + 3) s) k = true
    · rw [if_pos h, if_pos h]
    · rw [if_neg h, if_neg h]
theorem c_settleLongest {s : Int} (hd : 2 ≤ d) (ha : a = 3 ∨ a = 14 ∨ a = 25) (hN : pp_NK S a) (h1 : 0 ≤ s) (h2 : s < S.I a 10) (hL : ∀ k : Int, 0 ≤ k → k < 12 → 0 ≤ S.A (a + 10) k ∧ S.A (a + 10) k ≤ 200) (hv : pp_gx (S.A (a + 1) (s * 7 + 2)) (fun k => mm_bt (S.A (a + 3) s) k) (S.A (a + 10)) (S.I a 10).toNat + S.A (a + 1) (s * 7 + 0) ≤ 119) : mm_ev E d 45 [.ref (mm_ad B a), .int (mm_i s)] (mm_hp B S c)
    = mm_oV (mm_hp B (S.sA (a + 10) (mm_u (S.A (a + 10)) s (pp_gx (S.A (a + 1) (s * 7 + 2)) (fun k => mm_bt (S.A (a + 3) s) k) (S.A (a + 10)) (S.I a 10).toNat + S.A (a + 1) (s * 7 + 0)))) c) := by
  refine mm_v45 ha (by omega) (fun F e hF he => ?_)
  have g := hN.1
  simp (disch := omega) only [mm_e45_0, c_told, mm_hm]
  exact l_settleLongest (by omega) ha hN h1 h2 hL hv (S.I a 10).toNat 0 (F + 99) (by omega) (by omega)
theorem l_settleFlow {s m0 w0 : Int} (hd : 1 ≤ d) (ha : a = 3 ∨ a = 14 ∨ a = 25) (hN : pp_NK S a) (h1 : 0 ≤ s) (h2 : s < S.I a 10) (hs : mm_bt (S.A (a + 3) s) s = false) : ∀ (j k n : Nat), (S.I a 10).toNat = k + j → 2 * j < n → mm_r46_26 E (mm_ev E d) n (mm_ad B a) (mm_i s) (mm_i k)
      (mm_hp B ((S.sA (a + 8) (mm_u (S.A (a + 8)) s (m0 + pp_sm (fun k => if mm_bt (S.A (a + 3) k) s = true then S.A (a + 8) k else 0) k))).sA (a + 9) (mm_u (S.A (a + 9)) s (w0 + pp_sm (fun k => if mm_bt (S.A (a + 3) k) s = true then S.A (a + 9) k else 0) k))) c)
    = mm_oV (mm_hp B ((S.sA (a + 8) (mm_u (S.A (a + 8)) s (m0 + pp_sm (fun k => if mm_bt (S.A (a + 3) k) s = true then S.A (a + 8) k else 0) (S.I a 10).toNat))).sA (a + 9) (mm_u (S.A (a + 9)) s (w0 + pp_sm (fun k => if mm_bt (S.A (a + 3) k) s = true then S.A (a + 9) k else 0) (S.I a 10).toNat))) c) := by
  obtain ⟨⟨n0, n1⟩, -, hS, -, hT⟩ := hN
  intro j
  induction j with
  | zero =>
    intro k n hk hn
    obtain ⟨n, rfl⟩ : ∃ m, n = m + 1 := ⟨n - 1, by omega⟩
    rw [mm_e46_26]
    simp (disch := omega) only [mm_ptN, mm_gs, mm_br_le]
    rw [if_pos (by omega), show (S.I a 10).toNat = k from hk]
  | succ j ih =>
    intro k n hk hn
    obtain ⟨n, rfl⟩ : ∃ m, n = m + 2 := ⟨n - 2, by omega⟩
    have b0 := hS k (by omega) (by omega)
    rw [mm_e46_26]
    simp (disch := omega) only [mm_ptN, mm_gs, mm_br_le]
    rw [if_neg (by omega)]
    by_cases hb : mm_bt (S.A (a + 3) k) s = true
    · have hk0 : (k : Int) ≠ s := fun z => by
        rw [z, hs] at hb
        cases hb
      have ih := ih (k + 1) n (by omega) (by omega)
      rw [Int.natCast_add, Int.natCast_one] at ih
      rw [c_supplies (by omega) ha h1 (by omega) (by omega) (by omega) (by rw [mm_gA_ne (by omega), mm_gA_ne (by omega)]; exact b0.1)]
      simp (disch := omega) only [mm_hm, mm_br_b1, mm_ptN, mm_gs, pp_ne, hb, if_true, pp_ue, mm_e46_58, pp_cm]
      rw [← ih]
      simp only [pp_sm, if_pos hb, Int.add_assoc]
    · have ih := ih (k + 1) (n + 1) (by omega) (by omega)
      rw [Int.natCast_add, Int.natCast_one] at ih
      rw [c_supplies (by omega) ha h1 (by omega) (by omega) (by omega) (by rw [mm_gA_ne (by omega), mm_gA_ne (by omega)]; exact b0.1)]
      simp (disch := omega) only [mm_hm, mm_br_b1, mm_ptN, mm_gs, pp_ne, hb]
      rw [if_neg (by decide), ← ih]
      simp only [pp_sm, if_neg hb, Int.add_zero]
theorem c_settleFlow {s : Int} (hd : 2 ≤ d) (ha : a = 3 ∨ a = 14 ∨ a = 25) (hN : pp_NK S a) (h1 : 0 ≤ s) (h2 : s < S.I a 10) (hs : mm_bt (S.A (a + 3) s) s = false) : mm_ev E d 46 [.ref (mm_ad B a), .int (mm_i s)] (mm_hp B S c)
    = mm_oV (mm_hp B ((S.sA (a + 8) (mm_u (S.A (a + 8)) s (S.A (a + 1) (s * 7 + 3) + pp_sm (fun k => if mm_bt (S.A (a + 3) k) s = true then S.A (a + 8) k else 0) (S.I a 10).toNat))).sA (a + 9) (mm_u (S.A (a + 9)) s (S.A (a + 1) (s * 7 + 4) + pp_sm (fun k => if mm_bt (S.A (a + 3) k) s = true then S.A (a + 9) k else 0) (S.I a 10).toNat))) c) := by
  refine mm_v46 ha (by omega) (fun F e hF he => ?_)
  have g := hN.1
  rw [← l_settleFlow (m0 := S.A (a + 1) (s * 7 + 3)) (w0 := S.A (a + 1) (s * 7 + 4)) (E := E) (d := e) (by omega) ha hN h1 h2 hs (S.I a 10).toNat 0 (F + 99) (by omega) (by omega)]
  simp (disch := omega) only [mm_e46_0, c_told, mm_hm, mm_ptN, pp_ne, mm_gs]
  simp only [pp_sm, Int.add_zero]
  rfl
end SETTLE
