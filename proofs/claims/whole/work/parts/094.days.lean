/-! DAYS: what is CALLED, ON HAND, what BREAKS -/
section DAYS
variable {E : mm_E} {d B : Nat} {S : mm_S} {c : mm_N} {a : Nat}
/-- what the demands may be -/
def pp_DM (S : mm_S) (a : Nat) : Prop := ∀ i : Int, 0 ≤ i → i < 480 → 0 ≤ S.A (a + 6) i ∧ S.A (a + 6) i ≤ 999
/-- CALLED of a stage on a day -/
noncomputable def pp_cd (S : mm_S) (a : Nat) (s t : Int) : Int := pp_sm (fun k => if pp_bb (pp_Wf (S.I a 10) (S.A (a + 3))) s k = true then S.A (a + 6) (k * 40 + t) else 0) (S.I a 10).toNat
theorem pp_cd_r {s t : Int} (hn : 0 ≤ S.I a 10 ∧ S.I a 10 ≤ 12) (hD : pp_DM S a) (h1 : 0 ≤ t) (h2 : t < 40) : 0 ≤ pp_cd S a s t ∧ pp_cd S a s t ≤ 11988 := by
  unfold pp_cd
  constructor
  · refine pp_sm_nn _ (fun i i1 i2 => ?_)
    by_cases e : pp_bb (pp_Wf (S.I a 10) (S.A (a + 3))) s i = true
    · rw [if_pos e]; exact (hD _ (by omega) (by omega)).1
    · rw [if_neg e]; omega
  · have h := pp_sm_le (g := fun k => if pp_bb (pp_Wf (S.I a 10) (S.A (a + 3))) s k = true then S.A (a + 6) (k * 40 + t) else 0) (m := 999) (S.I a 10).toNat (fun i i1 i2 => by
      show (if pp_bb (pp_Wf (S.I a 10) (S.A (a + 3))) s i = true then S.A (a + 6) (i * 40 + t) else 0) ≤ 999
      by_cases e : pp_bb (pp_Wf (S.I a 10) (S.A (a + 3))) s i = true
      · rw [if_pos e]; exact (hD _ (by omega) (by omega)).2
      · rw [if_neg e]; omega)
    omega
theorem pp_cs_r {s : Int} (hn : 0 ≤ S.I a 10 ∧ S.I a 10 ≤ 12) (hD : pp_DM S a) {k : Nat} (hk : k ≤ 40) : 0 ≤ pp_sm (pp_cd S a s) k ∧ pp_sm (pp_cd S a s) k ≤ 479520 := by
  constructor
  · exact pp_sm_nn _ (fun i i1 i2 => (pp_cd_r hn hD i1 (by omega)).1)
  · have h := pp_sm_le (g := pp_cd S a s) (m := 11988) k (fun i i1 i2 => (pp_cd_r hn hD i1 (by omega)).2)
    omega
/-- what stands while all below is gathered -/
def pp_BI (n : Int) (W : pp_W) (ord : Int → Int) (s x k : Int) : Prop := (0 ≤ x ∧ x < 4096) ∧ mm_bt x s = true ∧ (∀ t : Int, 0 ≤ t → mm_bt x t = true → pp_bw W s t) ∧ (∀ i : Int, 0 ≤ i → i < k → mm_bt x (ord i) = true → ∀ t, W (ord i) t = true → mm_bt x t = true)
theorem l_allBelow {s : Int} (hd : 1 ≤ d) (ha : a = 3 ∨ a = 14 ∨ a = 25) (hT : pp_NT S a) (h1 : 0 ≤ s) (h2 : s < S.I a 10) : ∀ (j k n : Nat) (x : Int), (S.I a 10).toNat = k + j → j < n → pp_BI (S.I a 10) (pp_Wf (S.I a 10) (S.A (a + 3))) (S.A (a + 7)) s x k →
    ∃ y : Int, (0 ≤ y ∧ y < 4096) ∧ (∀ t : Int, 0 ≤ t → t < S.I a 10 → mm_bt y t = pp_bb (pp_Wf (S.I a 10) (S.A (a + 3))) s t) ∧ mm_r59_6 E (mm_ev E d) n (mm_ad B a) (mm_i s) (mm_i x) (mm_i k) (mm_hp B S c) = mm_oI y (mm_hp B S c) := by
  have hn := hT.1.1
  have hO := hT.2.2.1
  intro j
  induction j with
  | zero =>
    intro k n x hk hj hI
    obtain ⟨n, rfl⟩ : ∃ m, n = m + 1 := ⟨n - 1, by omega⟩
    obtain ⟨i1, i2, i3, i4⟩ := hI
    refine ⟨x, i1, fun t t1 t2 => ?_, ?_⟩
    · have e : mm_bt x t = true ↔ pp_bb (pp_Wf (S.I a 10) (S.A (a + 3))) s t = true := by
        rw [pp_bb_t]
        refine ⟨i3 t t1, fun h => h (fun t => mm_bt x t = true) i2 (fun u v huv hu => ?_)⟩
        have g := pp_Wf_in _ _ u v huv
        obtain ⟨l, l1, l2, l3⟩ := hO.2.2.2 u g.1 g.2.1
        rw [← l3] at hu huv
        exact i4 l l1 (by omega) hu v huv
      cases h3 : mm_bt x t with
      | true => exact (e.mp h3).symm
      | false =>
        cases h4 : pp_bb (pp_Wf (S.I a 10) (S.A (a + 3))) s t with
        | false => rfl
        | true => rw [e.mpr h4] at h3; cases h3
    · rw [mm_e59_6]
      simp (disch := omega) only [mm_ptN, mm_br_le]
      rw [if_pos (by omega)]
  | succ j ih =>
    intro k n x hk hj hI
    obtain ⟨n, rfl⟩ : ∃ m, n = m + 1 := ⟨n - 1, by omega⟩
    have hI' := hI
    obtain ⟨i1, i2, i3, i4⟩ := hI
    have ho := hO.1 k (by omega) (by omega)
    have cb := hT.1.2.2.2.1 (S.A (a + 7) k) ho.1 (by omega)
    have cw : ∀ t : Int, 0 ≤ t → t < 12 → mm_bt (S.A (a + 4) (S.A (a + 7) k)) t = true → pp_Wf (S.I a 10) (S.A (a + 3)) (S.A (a + 7) k) t = true := fun t t1 t2 t3 => by
      rw [hT.2.1.2.1 _ t ho.1 (by omega) t1 t2] at t3
      have g := hT.2.1.1 (S.A (a + 7) k) t ho.1 (by omega) t1 t2 t3
      rw [pp_Wf_eq ⟨ho.1, g.1, t1, g.2⟩]
      exact t3
    have cw2 : ∀ t : Int, pp_Wf (S.I a 10) (S.A (a + 3)) (S.A (a + 7) k) t = true → mm_bt (S.A (a + 4) (S.A (a + 7) k)) t = true := fun t t3 => by
      have g := pp_Wf_in _ _ _ t t3
      rw [hT.2.1.2.1 _ t ho.1 (by omega) g.2.2.1 (by omega)]
      rw [pp_Wf_eq g] at t3
      exact t3
    rw [mm_e59_6]
    simp (disch := omega) only [mm_ptN, mm_br_le, c_has, mm_hm, mm_br_b1]
    rw [if_neg (by omega)]
    by_cases f : mm_bt x (S.A (a + 7) k) = true
    · rw [if_pos f]
      simp (disch := omega) only [mm_i_or]
      have hI2 : pp_BI (S.I a 10) (pp_Wf (S.I a 10) (S.A (a + 3))) (S.A (a + 7)) s (mm_ior x (S.A (a + 4) (S.A (a + 7) k))) ((k + 1 : Nat) : Int) := by
        refine ⟨⟨mm_ior_nn _ _, mm_ior_lt i1.2 cb.2⟩, by rw [mm_bt_or, i2]; rfl, fun t t1 t2 => ?_, fun i j1 j2 j3 t t1 => ?_⟩
        · rw [mm_bt_or] at t2
          rcases Bool.or_eq_true_iff.mp t2 with t2 | t2
          · exact i3 t t1 t2
          · by_cases t12 : t < 12
            · exact pp_bw_st (i3 _ ho.1 f) (cw t t1 t12 t2)
            · rw [mm_bt_lt cb.2 (by omega)] at t2; cases t2
        · by_cases e : i = k
          · rw [e] at t1
            rw [mm_bt_or, cw2 t t1, Bool.or_true]
          · rw [mm_bt_or] at j3
            rcases Bool.or_eq_true_iff.mp j3 with j3 | j3
            · rw [mm_bt_or, i4 i j1 (by omega) j3 t t1]; rfl
            · exfalso
              have g := hO.1 i j1 (by omega)
              obtain ⟨l, l1, l2, l3⟩ := pp_behind (pp_Wf_in _ _) hO (by omega) (by omega) (cw _ g.1 (by omega) j3)
              exact hO.2.1 i l j1 (by omega) l2 l3.symm
      obtain ⟨y, y1, y2, y3⟩ := ih (k + 1) n _ (by omega) (by omega) hI2
      rw [Int.natCast_add, Int.natCast_one] at y3
      exact ⟨y, y1, y2, y3⟩
    · rw [if_neg f]
      have e0 : mm_ior x 0 = x := by
        unfold mm_ior
        show ((x.toNat ||| 0 : Nat) : Int) = x
        rw [Nat.or_zero]
        omega
      simp (disch := omega) only [mm_i_or, e0]
      have hI2 : pp_BI (S.I a 10) (pp_Wf (S.I a 10) (S.A (a + 3))) (S.A (a + 7)) s x ((k + 1 : Nat) : Int) := by
        refine ⟨i1, i2, i3, fun i j1 j2 j3 t t1 => ?_⟩
        by_cases e : i = k
        · rw [e] at j3; exact absurd j3 f
        · exact i4 i j1 (by omega) j3 t t1
      obtain ⟨y, y1, y2, y3⟩ := ih (k + 1) n x (by omega) (by omega) hI2
      rw [Int.natCast_add, Int.natCast_one] at y3
      exact ⟨y, y1, y2, y3⟩
theorem c_allBelow {s : Int} (hd : 2 ≤ d) (ha : a = 3 ∨ a = 14 ∨ a = 25) (hT : pp_NT S a) (h1 : 0 ≤ s) (h2 : s < S.I a 10) : ∃ y : Int, (0 ≤ y ∧ y < 4096) ∧ (∀ t : Int, 0 ≤ t → t < S.I a 10 → mm_bt y t = pp_bb (pp_Wf (S.I a 10) (S.A (a + 3))) s t) ∧ mm_ev E d 59 [.ref (mm_ad B a), .int (mm_i s)] (mm_hp B S c) = mm_oI y (mm_hp B S c) := by
  obtain ⟨e, rfl⟩ : ∃ e, d = e + 1 := ⟨d - 1, by omega⟩
  have hn := hT.1.1
  obtain ⟨F, hF, h⟩ := mm_w59 E e B S c a ha (mm_i s)
  obtain ⟨y, y1, y2, y3⟩ := l_allBelow (E := E) (d := e) (B := B) (c := c) (s := s) (by omega) ha hT h1 h2 (S.I a 10).toNat 0 (F + 99) (mm_pw s) (by omega) (by omega) ⟨⟨mm_pw_nn s, mm_pw_lt (by omega)⟩, by rw [mm_bt_pw h1 h1]; simp, fun t t1 t2 => by
    rw [mm_bt_pw h1 t1] at t2
    rw [of_decide_eq_true t2]
    exact pp_bw_rf _ s, fun i j1 j2 => by omega⟩
  refine ⟨y, y1, y2, ?_⟩
  rw [h, mm_e59_0, mm_i_shl h1 (by omega)]
  exact y3
theorem c_inside {x : Int} (hd : 1 ≤ d) (h1 : -2147483648 ≤ x) (h2 : x < 2147483648) : mm_ev E d 28 [.int (mm_i x)] (mm_hp B S c) = mm_oI (max 0 (min x 40)) (mm_hp B S c) := by
  refine mm_v28 (by omega) (fun F e hF he => ?_)
  simp (disch := omega) only [mm_e28_0, mm_i_mn, mm_i_mx]
/-- the ledger is open: what was CALLED ahead of each day stands in its row -/
def pp_LO (S : mm_S) (g : Int → Int) : Prop := ∀ j : Int, 0 ≤ j → j ≤ 40 → S.A 94 j = pp_sm g j.toNat
theorem c_calledOn {g : Int → Int} {x y : Int} (hd : 2 ≤ d) (hO : pp_LO S g) (h1 : -1000 ≤ x) (h2 : x ≤ 40) (h3 : -1000 ≤ y) (h4 : y < 40) : mm_ev E d 22 [.ref (mm_ad B 93), .int (mm_i x), .int (mm_i y)] (mm_hp B S c) = mm_oI (pp_sm g (y + 1).toNat - pp_sm g x.toNat) (mm_hp B S c) := by
  refine mm_v22 (by omega) (fun F e hF he => ?_)
  simp (disch := omega) only [mm_e22_0, mm_ptL, mm_hm, c_inside]
  rw [hO _ (by omega) (by omega), hO _ (by omega) (by omega), show (max 0 (min (y + 1) 40)).toNat = (y + 1).toNat by omega, show (max 0 (min x 40)).toNat = x.toNat by omega]
/-- ON HAND -/
def pp_oh (g : Int → Int) (b t nd x : Int) : Int := b - (pp_sm g (x - t + 1).toNat - pp_sm g (x - t - nd + 1).toNat)
theorem c_onHand {g : Int → Int} {x : Int} (hd : 3 ≤ d) (hO : pp_LO S g) (h1 : 0 ≤ x) (h2 : x < 40) (h3 : 0 ≤ S.I 93 4 ∧ S.I 93 4 ≤ 119) (h4 : 0 ≤ S.I 93 2 ∧ S.I 93 2 ≤ 128) : mm_ev E d 23 [.ref (mm_ad B 93), .int (mm_i x)] (mm_hp B S c) = mm_oI (pp_oh g (S.I 93 3) (S.I 93 4) (S.I 93 2) x) (mm_hp B S c) := by
  refine mm_v23 (by omega) (fun F e hF he => ?_)
  simp (disch := omega) only [mm_e23_0, mm_ptL, mm_hm]
  rw [c_calledOn (by omega) hO (by omega) (by omega) (by omega) (by omega), mm_cI_ok]
  simp only [mm_hm]
  rfl
/-- the greatest of 1 .. m that is so; 0 -/
def pp_lb (p : Int → Bool) : Nat → Int
  | 0 => 0
  | m + 1 => if p ((m : Int) + 1) = true then (m : Int) + 1 else pp_lb p m
theorem pp_lb_r (p : Int → Bool) : ∀ m : Nat, 0 ≤ pp_lb p m ∧ pp_lb p m ≤ m
  | 0 => ⟨Int.le_refl 0, Int.le_refl 0⟩
  | m + 1 => by
    have i := pp_lb_r p m
    show 0 ≤ (if p ((m : Int) + 1) = true then (m : Int) + 1 else pp_lb p m) ∧ (if p ((m : Int) + 1) = true then (m : Int) + 1 else pp_lb p m) ≤ ((m + 1 : Nat) : Int)
    by_cases e : p ((m : Int) + 1) = true
    · rw [if_pos e]; omega
    · rw [if_neg e]; omega
/-- n days that end with x BREAK -/
def pp_bk (g bd : Int → Int) (x n : Int) : Bool := decide (bd n < pp_sm g (x + 1).toNat - pp_sm g (x - n + 1).toNat)
theorem l_longestBreak {g : Int → Int} {x : Int} (hd : 2 ≤ d) (hO : pp_LO S g) (hg : ∀ k : Nat, k ≤ 40 → 0 ≤ pp_sm g k ∧ pp_sm g k ≤ 479520) (hb : ∀ k : Int, 0 ≤ k → k ≤ 40 → 0 ≤ S.A 95 k ∧ S.A 95 k ≤ 1000000) (h1 : 0 ≤ x) (h2 : x < 40) : ∀ (m n : Nat), (m : Int) ≤ x + 1 → m < n → mm_r24_4 E (mm_ev E d) n (mm_ad B 93) (mm_i x) (mm_i m) (mm_hp B S c) = mm_oI (pp_lb (pp_bk g (S.A 95) x) m) (mm_hp B S c) := by
  intro m
  induction m with
  | zero =>
    intro n hm hn
    obtain ⟨n, rfl⟩ : ∃ q, n = q + 1 := ⟨n - 1, by omega⟩
    rw [mm_e24_4]
    simp (disch := omega) only [mm_br_le]
    rw [if_pos (by omega)]
    rfl
  | succ m ih =>
    intro n hm hn
    obtain ⟨n, rfl⟩ : ∃ q, n = q + 1 := ⟨n - 1, by omega⟩
    have ih := ih n (by omega) (by omega)
    have q1 := hg (x + 1).toNat (by omega)
    have q2 := hg (x - ((m : Int) + 1) + 1).toNat (by omega)
    have q3 := hb ((m : Int) + 1) (by omega) (by omega)
    rw [mm_e24_4]
    rw [Int.natCast_add, Int.natCast_one]
    simp (disch := omega) only [mm_br_le]
    rw [if_neg (by omega)]
    simp only [mm_hm]
    rw [c_calledOn (by omega) hO (by omega) (by omega) (by omega) (by omega), mm_cI_ok]
    simp (disch := omega) only [mm_ptL, mm_br_le]
    rw [show (m : Int) + 1 + -1 = (m : Int) by omega, ih]
    show _ = mm_oI (if pp_bk g (S.A 95) x ((m : Int) + 1) = true then (m : Int) + 1 else pp_lb (pp_bk g (S.A 95) x) m) (mm_hp B S c)
    by_cases e : pp_bk g (S.A 95) x ((m : Int) + 1) = true
    · have e2 := of_decide_eq_true e
      rw [if_pos e, if_neg (by omega)]
    · have e2 : ¬ _ := fun z => e (decide_eq_true z)
      rw [if_neg e, if_pos (by omega)]
theorem c_longestBreak {g : Int → Int} {x : Int} (hd : 3 ≤ d) (hO : pp_LO S g) (hg : ∀ k : Nat, k ≤ 40 → 0 ≤ pp_sm g k ∧ pp_sm g k ≤ 479520) (hb : ∀ k : Int, 0 ≤ k → k ≤ 40 → 0 ≤ S.A 95 k ∧ S.A 95 k ≤ 1000000) (h1 : 0 ≤ x) (h2 : x < 40) : mm_ev E d 24 [.ref (mm_ad B 93), .int (mm_i x)] (mm_hp B S c) = mm_oI (pp_lb (pp_bk g (S.A 95) x) (x + 1).toNat) (mm_hp B S c) := by
  refine mm_v24 (by omega) (fun F e hF he => ?_)
  rw [mm_e24_0]
  simp only [mm_hm]
  have l := l_longestBreak (E := E) (d := e) (B := B) (S := S) (c := c) (g := g) (x := x) (by omega) hO hg hb h1 h2 (x + 1).toNat (F + 99) (by omega) (by omega)
  rw [show (((x + 1).toNat : Nat) : Int) = x + 1 by omega] at l
  exact l
theorem l_firstBreak {g : Int → Int} (hd : 3 ≤ d) (hO : pp_LO S g) (hg : ∀ k : Nat, k ≤ 40 → 0 ≤ pp_sm g k ∧ pp_sm g k ≤ 479520) (hb : ∀ k : Int, 0 ≤ k → k ≤ 40 → 0 ≤ S.A 95 k ∧ S.A 95 k ≤ 1000000) : ∀ (j n : Nat) (x : Int), 0 ≤ x → x + j = 40 → j < n → mm_r25_2 E (mm_ev E d) n (mm_ad B 93) (mm_i x) (mm_hp B S c) = mm_oI (pp_first (fun x => decide (pp_lb (pp_bk g (S.A 95) x) (x + 1).toNat ≤ 0)) j x) (mm_hp B S c) := by
  intro j
  induction j with
  | zero =>
    intro n x h0 hx hn
    obtain ⟨n, rfl⟩ : ∃ q, n = q + 1 := ⟨n - 1, by omega⟩
    rw [mm_e25_2]
    simp (disch := omega) only [mm_br_le]
    rw [if_pos (by omega)]
    rfl
  | succ j ih =>
    intro n x h0 hx hn
    obtain ⟨n, rfl⟩ : ∃ q, n = q + 1 := ⟨n - 1, by omega⟩
    have r := pp_lb_r (pp_bk g (S.A 95) x) (x + 1).toNat
    rw [mm_e25_2]
    simp (disch := omega) only [mm_br_le]
    rw [if_neg (by omega), c_longestBreak hd hO hg hb h0 (by omega), mm_cI_ok]
    simp (disch := omega) only [mm_br_le, mm_hm]
    show _ = mm_oI (if decide (pp_lb (pp_bk g (S.A 95) x) (x + 1).toNat ≤ 0) = true then _ else x) (mm_hp B S c)
    by_cases e : pp_lb (pp_bk g (S.A 95) x) (x + 1).toNat ≤ 0
    · rw [if_pos e, if_pos (decide_eq_true e)]
      exact ih _ _ (by omega) (by omega) (by omega)
    · rw [if_neg e, if_neg (fun z => e (of_decide_eq_true z))]
theorem c_firstBreak {g : Int → Int} (hd : 4 ≤ d) (hO : pp_LO S g) (hg : ∀ k : Nat, k ≤ 40 → 0 ≤ pp_sm g k ∧ pp_sm g k ≤ 479520) (hb : ∀ k : Int, 0 ≤ k → k ≤ 40 → 0 ≤ S.A 95 k ∧ S.A 95 k ≤ 1000000) : mm_ev E d 25 [.ref (mm_ad B 93)] (mm_hp B S c) = mm_oI (pp_first (fun x => decide (pp_lb (pp_bk g (S.A 95) x) (x + 1).toNat ≤ 0)) 40 0) (mm_hp B S c) := by
  refine mm_v25 (by omega) (fun F e hF he => ?_)
  rw [mm_e25_0]
  exact l_firstBreak (by omega) hO hg hb 40 (F + 99) 0 (by omega) (by omega) (by omega)
end DAYS
