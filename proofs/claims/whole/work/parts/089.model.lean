/-! THE MODEL: who supplies whom, FLOW, LONGEST, ROOT, WAIT, NET -/
theorem mm_supN_bt {f : Int → Int} {s : Int} (hP : mm_PR f) : ∀ (k : Nat) (i : Int), (k : Int) ≤ f 2 → 0 ≤ i → (mm_bt (mm_supN f s k) i = true ↔ ∃ l : Int, 0 ≤ l ∧ l < k ∧ f (159 + 2 * l) = i ∧ f (159 + 2 * l + 1) = s)
  | 0, i, _, _ => by
    constructor
    · intro h
      have h : mm_bt 0 i = true := h
      rw [mm_bt_0] at h; cases h
    · rintro ⟨l, h1, h2, -⟩; omega
  | k + 1, i, hk, h0 => by
    have g := hP.2.2 k (by omega) (by omega)
    have ih := mm_supN_bt (f := f) (s := s) hP k i (by omega) h0
    rw [mm_supN, mm_bt_or, Bool.or_eq_true, ih]
    constructor
    · rintro (⟨l, h1, h2, h3⟩ | h)
      · exact ⟨l, h1, by omega, h3⟩
      · by_cases e : f (159 + 2 * (k : Int) + 1) = s
        · rw [if_pos e, mm_bt_pw g.1 h0] at h
          exact ⟨k, by omega, by omega, (of_decide_eq_true h).symm, e⟩
        · rw [if_neg e, mm_bt_0] at h; cases h
    · rintro ⟨l, h1, h2, h3, h4⟩
      by_cases e : l = k
      · subst e
        rw [if_pos h4, mm_bt_pw g.1 h0]
        exact Or.inr (decide_eq_true h3.symm)
      · exact Or.inl ⟨l, h1, by omega, h3, h4⟩
theorem mm_cusN_bt {f : Int → Int} {s : Int} (hP : mm_PR f) : ∀ (k : Nat) (i : Int), (k : Int) ≤ f 2 → 0 ≤ i → (mm_bt (mm_cusN f s k) i = true ↔ ∃ l : Int, 0 ≤ l ∧ l < k ∧ f (159 + 2 * l) = s ∧ f (159 + 2 * l + 1) = i)
  | 0, i, _, _ => by
    constructor
    · intro h
      have h : mm_bt 0 i = true := h
      rw [mm_bt_0] at h; cases h
    · rintro ⟨l, h1, h2, -⟩; omega
  | k + 1, i, hk, h0 => by
    have g := hP.2.2 k (by omega) (by omega)
    have ih := mm_cusN_bt (f := f) (s := s) hP k i (by omega) h0
    rw [mm_cusN, mm_bt_or, Bool.or_eq_true, ih]
    constructor
    · rintro (⟨l, h1, h2, h3⟩ | h)
      · exact ⟨l, h1, by omega, h3⟩
      · by_cases e : f (159 + 2 * (k : Int)) = s
        · rw [if_pos e, mm_bt_pw g.2.2.1 h0] at h
          exact ⟨k, by omega, by omega, e, (of_decide_eq_true h).symm⟩
        · rw [if_neg e, mm_bt_0] at h; cases h
    · rintro ⟨l, h1, h2, h3, h4⟩
      by_cases e : l = k
      · subst e
        rw [if_pos h3, mm_bt_pw g.2.2.1 h0]
        exact Or.inr (decide_eq_true h4.symm)
      · exact Or.inl ⟨l, h1, by omega, h3, h4⟩
theorem mm_sup_bt {f : Int → Int} {s i : Int} (hP : mm_PR f) (h0 : 0 ≤ i) : mm_bt (mm_sup f s) i = true ↔ ∃ l : Int, 0 ≤ l ∧ l < f 2 ∧ f (159 + 2 * l) = i ∧ f (159 + 2 * l + 1) = s := by
  have g := hP.1
  have h := mm_supN_bt (s := s) hP (f 2).toNat i (by omega) h0
  rw [show ((f 2).toNat : Int) = f 2 by omega] at h
  exact h
theorem mm_cus_bt {f : Int → Int} {s i : Int} (hP : mm_PR f) (h0 : 0 ≤ i) : mm_bt (mm_cus f s) i = true ↔ ∃ l : Int, 0 ≤ l ∧ l < f 2 ∧ f (159 + 2 * l) = s ∧ f (159 + 2 * l + 1) = i := by
  have g := hP.1
  have h := mm_cusN_bt (s := s) hP (f 2).toNat i (by omega) h0
  rw [show ((f 2).toNat : Int) = f 2 by omega] at h
  exact h
theorem mm_supN_lt {f : Int → Int} {s : Int} (hP : mm_PR f) : ∀ (k : Nat), (k : Int) ≤ f 2 → mm_supN f s k < 4096
  | 0, _ => by show (0 : Int) < 4096; omega
  | k + 1, hk => by
    have g := hP.2.2 k (by omega) (by omega)
    have ih := mm_supN_lt (s := s) hP k (by omega)
    rw [mm_supN]
    refine mm_ior_lt ih ?_
    by_cases e : f (159 + 2 * (k : Int) + 1) = s
    · rw [if_pos e]; exact mm_pw_lt g.2.1
    · rw [if_neg e]; omega
theorem mm_cusN_lt {f : Int → Int} {s : Int} (hP : mm_PR f) : ∀ (k : Nat), (k : Int) ≤ f 2 → mm_cusN f s k < 4096
  | 0, _ => by show (0 : Int) < 4096; omega
  | k + 1, hk => by
    have g := hP.2.2 k (by omega) (by omega)
    have ih := mm_cusN_lt (s := s) hP k (by omega)
    rw [mm_cusN]
    refine mm_ior_lt ih ?_
    by_cases e : f (159 + 2 * (k : Int)) = s
    · rw [if_pos e]; exact mm_pw_lt g.2.2.2
    · rw [if_neg e]; omega
theorem mm_sup_r {f : Int → Int} (s : Int) (hP : mm_PR f) : 0 ≤ mm_sup f s ∧ mm_sup f s < 4096 := ⟨mm_supN_nn _ _ _, mm_supN_lt hP _ (by have := hP.1; omega)⟩
theorem mm_cus_r {f : Int → Int} (s : Int) (hP : mm_PR f) : 0 ≤ mm_cus f s ∧ mm_cus f s < 4096 := ⟨mm_cusN_nn _ _ _, mm_cusN_lt hP _ (by have := hP.1; omega)⟩
/-- a row of the model is of n stages, supplied as W says -/
def pp_RV (f : Int → Int) (n : Int) (W : pp_W) : Prop := f 0 = n ∧ 0 ≤ n ∧ n ≤ 12 ∧ mm_PR f ∧ pp_IN n W ∧ (∀ i j : Int, 0 ≤ i → i < 12 → 0 ≤ j → j < 12 → mm_bt (mm_sup f j) i = W i j ∧ mm_bt (mm_cus f i) j = W i j)
/-- places in an order of suppliers ahead -/
def pp_RB (W : pp_W) (ps : Int → Nat) : Prop := (∀ s, ps s < 12) ∧ ∀ i j, W i j = true → ps i < ps j
theorem pp_OR_RB {n : Int} {W : pp_W} {ord : Int → Int} (hn : n ≤ 12) (hW : pp_IN n W) (hO : pp_OR n W ord) : ∃ ps, pp_RB W ps := by
  obtain ⟨ho, hd, hs, hc⟩ := hO
  have h : ∀ s : Int, ∃ k : Nat, k < 12 ∧ (0 ≤ s → s < n → (k : Int) < n ∧ ord k = s) := by
    intro s
    by_cases e : 0 ≤ s ∧ s < n
    · obtain ⟨i, i1, i2, i3⟩ := hc s e.1 e.2
      exact ⟨i.toNat, by omega, fun _ _ => ⟨by omega, by rw [show (i.toNat : Int) = i by omega]; exact i3⟩⟩
    · exact ⟨0, by omega, fun h1 h2 => absurd ⟨h1, h2⟩ e⟩
  obtain ⟨ps, hps⟩ := Classical.axiomOfChoice h
  refine ⟨ps, fun s => (hps s).1, fun i j e => ?_⟩
  have g := hW i j e
  obtain ⟨a1, a2⟩ := (hps i).2 g.1 g.2.1
  obtain ⟨b1, b2⟩ := (hps j).2 g.2.2.1 g.2.2.2
  have e2 : W i (ord (ps j)) = true := by rw [b2]; exact e
  obtain ⟨k, k1, k2, k3⟩ := hs (ps j) i (by omega) b1 e2
  by_cases z : ps i < ps j
  · exact z
  · exfalso
    by_cases y : k < (ps i : Int)
    · exact hd k (ps i) k1 y a1 (k3.trans a2.symm)
    · omega
section MODEL
variable {E : mm_E} {d B : Nat} {S : mm_S} {c : mm_N}
theorem l_flowOf {n : Int} {W : pp_W} {G : Int → Int} {s w : Int} (hR : pp_RV (S.A 102) n W) (hd : 2 ≤ d) (h1 : 0 ≤ s) (h2 : s < n) (h3 : 0 ≤ w) (h4 : w < 7) (hG : ∀ t : Int, W s t = true → mm_ev E d 162 [.ref (mm_ad B 101), .int (mm_i t), .int (mm_i w)] (mm_hp B S c) = mm_oI (G t) (mm_hp B S c)) (b : Int) : ∀ (j k m : Nat), n.toNat = k + j → j < m → mm_r162_10 E (mm_ev E d) m (mm_ad B 101) (mm_i s) (mm_i w) (mm_i (b + pp_sm (fun t => if W s t = true then G t else 0) k)) (mm_i k) (mm_hp B S c) = mm_oI (b + pp_sm (fun t => if W s t = true then G t else 0) n.toNat) (mm_hp B S c) := by
  obtain ⟨r0, r1, r2, hP, hW, hB⟩ := hR
  have cr := mm_cus_r s hP
  intro j
  induction j with
  | zero =>
    intro k m hk hm
    obtain ⟨m, rfl⟩ : ∃ q, m = q + 1 := ⟨m - 1, by omega⟩
    rw [mm_e162_10]
    simp (disch := omega) only [c_many, mm_hm, r0, mm_br_le]
    rw [if_pos (by omega), show n.toNat = k from hk]
  | succ j ih =>
    intro k m hk hm
    obtain ⟨m, rfl⟩ : ∃ q, m = q + 1 := ⟨m - 1, by omega⟩
    have ih := ih (k + 1) m (by omega) (by omega)
    rw [Int.natCast_add, Int.natCast_one] at ih
    rw [mm_e162_10]
    simp (disch := omega) only [c_many, mm_hm, r0, mm_br_le]
    rw [if_neg (by omega), c_customersOf hd hP (by omega) (by omega)]
    simp (disch := omega) only [c_isOf, mm_hm, mm_br_b1]
    rw [(hB s k h1 (by omega) (by omega) (by omega)).2]
    by_cases e : W s k = true
    · rw [if_pos e, hG k e]
      simp only [mm_hm]
      rw [← ih, pp_sm, if_pos e, Int.add_assoc]
    · rw [if_neg e, ← ih, pp_sm, if_neg e]
      simp only [Int.add_zero]
theorem c_flowOf {n : Int} {W : pp_W} {ps : Int → Nat} {G : Int → Int} {w : Int} (hR : pp_RV (S.A 102) n W) (hB : pp_RB W ps) (h3 : 0 ≤ w) (h4 : w < 7) (hG : pp_FQ n (fun s => S.A 102 (3 + 7 * s + w)) W G) {s : Int} (hd : 15 ≤ d) (h1 : 0 ≤ s) (h2 : s < n) : mm_ev E d 162 [.ref (mm_ad B 101), .int (mm_i s), .int (mm_i w)] (mm_hp B S c) = mm_oI (G s) (mm_hp B S c) := by
  have main : ∀ (k d : Nat) (s : Int), 12 - ps s ≤ k → k + 3 ≤ d → 0 ≤ s → s < n → mm_ev E d 162 [.ref (mm_ad B 101), .int (mm_i s), .int (mm_i w)] (mm_hp B S c) = mm_oI (G s) (mm_hp B S c) := by
    intro k
    induction k with
    | zero =>
      intro d s hk
      have := hB.1 s
      omega
    | succ k ih =>
      intro d s hk hd h1 h2
      refine mm_v162 (by omega) (fun F e hF he => ?_)
      have r2 := hR.2.2.1
      have hn : 0 ≤ n := hR.2.1
      rw [mm_e162_0, c_of (by omega) h1 (by omega) h3 h4, mm_cI_ok]
      have l := l_flowOf (E := E) (d := e) (B := B) (c := c) (G := G) hR (by omega) h1 h2 h3 h4 (fun t ht => ih e t (by have := hB.2 s t ht; omega) (by omega) (hR.2.2.2.2.1 s t ht).2.2.1 (hR.2.2.2.2.1 s t ht).2.2.2) (S.A 102 (3 + 7 * s + w)) n.toNat 0 (F + 99) (by omega) (by omega)
      have z : S.A 102 (3 + 7 * s + w) + pp_sm (fun t => if W s t = true then G t else 0) 0 = S.A 102 (3 + 7 * s + w) := Int.add_zero _
      rw [z] at l
      rw [hG s h1 h2]
      exact l
  exact main 12 d s (by omega) hd h1 h2
theorem l_longestOf {n : Int} {W : pp_W} {L : Int → Int} {s : Int} (hR : pp_RV (S.A 102) n W) (hd : 2 ≤ d) (h1 : 0 ≤ s) (h2 : s < n) (hL : ∀ t : Int, W t s = true → 0 ≤ L t ∧ L t ≤ 200 ∧ mm_ev E d 163 [.ref (mm_ad B 101), .int (mm_i t)] (mm_hp B S c) = mm_oI (L t) (mm_hp B S c)) (b : Int) (hb : 0 ≤ b ∧ b ≤ 200) : ∀ (j k m : Nat), n.toNat = k + j → j < m → mm_r163_9 E (mm_ev E d) m (mm_ad B 101) (mm_i s) (mm_i (pp_gx b (fun t => W t s) L k)) (mm_i k) (mm_hp B S c) = mm_oI (pp_gx b (fun t => W t s) L n.toNat + S.A 102 (3 + 7 * s + 0)) (mm_hp B S c) := by
  obtain ⟨r0, r1, r2, hP, hW, hB⟩ := hR
  have cr := mm_sup_r s hP
  intro j
  induction j with
  | zero =>
    intro k m hk hm
    obtain ⟨m, rfl⟩ : ∃ q, m = q + 1 := ⟨m - 1, by omega⟩
    rw [mm_e163_9]
    simp (disch := omega) only [c_many, mm_hm, r0, mm_br_le]
    rw [if_pos (by omega)]
    simp (disch := omega) only [c_of, mm_hm]
    rw [show n.toNat = k from hk]
  | succ j ih =>
    intro k m hk hm
    obtain ⟨m, rfl⟩ : ∃ q, m = q + 1 := ⟨m - 1, by omega⟩
    have ih := ih (k + 1) m (by omega) (by omega)
    rw [Int.natCast_add, Int.natCast_one] at ih
    have q1 := pp_gx_ge b (fun t => W t s) L k
    have q2 := pp_gx_le (b := b) (p := fun t => W t s) (g := L) (m := 200) k hb.2 (fun i _ _ hi => (hL i hi).2.1)
    rw [mm_e163_9]
    simp (disch := omega) only [c_many, mm_hm, r0, mm_br_le]
    rw [if_neg (by omega), c_suppliersOf hd hP (by omega) (by omega)]
    simp (disch := omega) only [c_isOf, mm_hm, mm_br_b1]
    rw [(hB k s (by omega) (by omega) h1 (by omega)).1]
    by_cases e : W k s = true
    · have l := hL k e
      rw [if_pos e, l.2.2]
      simp (disch := omega) only [mm_hm, mm_i_mx]
      rw [← ih, pp_gx, if_pos e]
    · rw [if_neg e, ← ih, pp_gx, if_neg e]
theorem c_longestOf {n : Int} {W : pp_W} {ps : Int → Nat} {L : Int → Int} (hR : pp_RV (S.A 102) n W) (hB : pp_RB W ps) (hT : ∀ s : Int, 0 ≤ s → s < n → 0 ≤ S.A 102 (3 + 7 * s + 2) ∧ S.A 102 (3 + 7 * s + 2) ≤ 9) (hL : ∀ s : Int, 0 ≤ s → s < n → L s = pp_gx (S.A 102 (3 + 7 * s + 2)) (fun k => W k s) L n.toNat + S.A 102 (3 + 7 * s + 0)) (hL2 : ∀ s : Int, 0 ≤ s → s < n → 0 ≤ L s ∧ L s ≤ 200) {s : Int} (hd : 15 ≤ d) (h1 : 0 ≤ s) (h2 : s < n) : mm_ev E d 163 [.ref (mm_ad B 101), .int (mm_i s)] (mm_hp B S c) = mm_oI (L s) (mm_hp B S c) := by
  have main : ∀ (k d : Nat) (s : Int), ps s < k → k + 3 ≤ d → 0 ≤ s → s < n → mm_ev E d 163 [.ref (mm_ad B 101), .int (mm_i s)] (mm_hp B S c) = mm_oI (L s) (mm_hp B S c) := by
    intro k
    induction k with
    | zero => intro d s hk; omega
    | succ k ih =>
      intro d s hk hd h1 h2
      refine mm_v163 (by omega) (fun F e hF he => ?_)
      have r2 := hR.2.2.1
      have hn : 0 ≤ n := hR.2.1
      have t := hT s h1 h2
      rw [mm_e163_0, c_of (by omega) h1 (by omega) (by omega) (by omega), mm_cI_ok, hL s h1 h2]
      exact l_longestOf (E := E) (d := e) (B := B) (c := c) (L := L) hR (by omega) h1 h2 (fun t ht => by
        have g := hR.2.2.2.2.1 t s ht
        have g2 := hL2 t g.1 g.2.1
        exact ⟨g2.1, g2.2, ih e t (by have := hB.2 t s ht; omega) (by omega) g.1 g.2.1⟩) (S.A 102 (3 + 7 * s + 2)) (by omega) n.toNat 0 (F + 99) (by omega) (by omega)
  exact main 12 d s (hB.1 s) hd h1 h2
end MODEL
