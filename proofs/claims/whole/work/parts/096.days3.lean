/-! DAYS, the model's -/
section DAYS3
variable {E : mm_E} {d B : Nat} {S : mm_S} {c : mm_N} {a : Nat}
theorem l_called {n : Int} {W : pp_W} {G : Int → Int} {s t : Int} (hR : pp_RV (S.A 102) n W) (hd : 2 ≤ d) (h1 : 0 ≤ s) (h2 : s < n) (hG : ∀ k : Int, W s k = true → mm_ev E d 217 [.ref (mm_ad B 101), .int (mm_i k), .int (mm_i t)] (mm_hp B S c) = mm_oI (G k) (mm_hp B S c)) (b : Int) : ∀ (j k m : Nat), n.toNat = k + j → j < m → mm_r217_21 E (mm_ev E d) m (mm_ad B 101) (mm_i s) (mm_i t) (mm_i (b + pp_sm (fun k => if W s k = true then G k else 0) k)) (mm_i k) (mm_hp B S c) = mm_oI (b + pp_sm (fun k => if W s k = true then G k else 0) n.toNat) (mm_hp B S c) := by
  obtain ⟨r0, r1, r2, hP, hW, hB⟩ := hR
  have cr := mm_cus_r s hP
  intro j
  induction j with
  | zero =>
    intro k m hk hm
    obtain ⟨m, rfl⟩ : ∃ q, m = q + 1 := ⟨m - 1, by omega⟩
    rw [mm_e217_21]
    simp (disch := omega) only [c_many, mm_hm, r0, mm_br_le]
    rw [if_pos (by omega), show n.toNat = k from hk]
  | succ j ih =>
    intro k m hk hm
    obtain ⟨m, rfl⟩ : ∃ q, m = q + 1 := ⟨m - 1, by omega⟩
    have ih := ih (k + 1) m (by omega) (by omega)
    rw [Int.natCast_add, Int.natCast_one] at ih
    rw [mm_e217_21]
    simp (disch := omega) only [c_many, mm_hm, r0, mm_br_le]
    rw [if_neg (by omega), c_customersOf hd hP (by omega) (by omega)]
    simp (disch := omega) only [c_isOf, mm_hm, mm_br_b1]
    rw [(hB s k h1 (by omega) (by omega) (by omega)).2]
    by_cases e : W s k = true
    · rw [if_pos e, hG k e]
      simp only [mm_hm]
      rw [← ih, pp_sm, if_pos e, Int.add_assoc]
    · rw [if_neg e, ← ih, pp_sm, if_neg e, Int.add_zero]
theorem m_called {s t : Int} (hT : pp_NT S a) (hR : pp_RL S a (S.A 102)) (hE : ∀ i : Int, 0 ≤ i → i < S.I a 10 * 40 → S.A 106 i = S.A (a + 6) i) (hd : 15 ≤ d) (h1 : 0 ≤ s) (h2 : s < S.I a 10) (h3 : 0 ≤ t) (h4 : t < 40) : mm_ev E d 217 [.ref (mm_ad B 101), .int (mm_i s), .int (mm_i t)] (mm_hp B S c) = mm_oI (pp_cd S a s t) (mm_hp B S c) := by
  obtain ⟨ps, hB⟩ := pp_NT_RB hT
  have hV := pp_RL_RV hT.1 hR
  have hn := hT.1.1
  -- CALLED as a sum over those who are supplied
  have hQ : pp_FQ (S.I a 10) (fun k => S.A (a + 6) (k * 40 + t)) (pp_Wf (S.I a 10) (S.A (a + 3))) (fun k => pp_cd S a k t) := by
    -- there is such a sum, by places from behind, and it is the sum over all below
    have ex : ∀ (k : Nat) (s : Int), 12 - ps s ≤ k → 0 ≤ s → s < S.I a 10 → pp_cd S a s t = S.A (a + 6) (s * 40 + t) + pp_sm (fun j => if pp_Wf (S.I a 10) (S.A (a + 3)) s j = true then pp_cd S a j t else 0) (S.I a 10).toNat := by
      intro k s _ s1 s2
      -- by fuel
      let G : Nat → Int → Int := fun f => Nat.rec (fun _ => 0) (fun _ g s => S.A (a + 6) (s * 40 + t) + pp_sm (fun j => if pp_Wf (S.I a 10) (S.A (a + 3)) s j = true then g j else 0) (S.I a 10).toNat) f
      have gs : ∀ f s, G (f + 1) s = S.A (a + 6) (s * 40 + t) + pp_sm (fun j => if pp_Wf (S.I a 10) (S.A (a + 3)) s j = true then G f j else 0) (S.I a 10).toNat := fun f s => rfl
      have st : ∀ (f : Nat) (s : Int), 12 - ps s ≤ f → G (f + 1) s = G f s := by
        intro f
        induction f with
        | zero =>
          intro s hs
          have := hB.1 s
          omega
        | succ f ih =>
          intro s hs
          rw [gs (f + 1) s, gs f s]
          congr 1
          refine pp_sm_congr _ (fun j _ _ => ?_)
          by_cases e : pp_Wf (S.I a 10) (S.A (a + 3)) s j = true
          · rw [if_pos e, if_pos e, ih j (by have := hB.2 s j e; omega)]
          · rw [if_neg e, if_neg e]
      have q : pp_FQ (S.I a 10) (fun k => S.A (a + 6) (k * 40 + t)) (pp_Wf (S.I a 10) (S.A (a + 3))) (G 12) := fun s _ _ => by
        rw [← st 12 s (by omega), gs]
      have w := pp_FQ_bw (pp_Wf_in _ _) hT.2.1.2.2.1 hB q
      have e1 : ∀ s : Int, 0 ≤ s → s < S.I a 10 → pp_cd S a s t = G 12 s := fun s s1 s2 => (w s s1 s2).symm
      rw [e1 s s1 s2, q s s1 s2]
      congr 1
      refine pp_sm_congr _ (fun j j1 j2 => ?_)
      rw [e1 j j1 (by omega)]
    exact fun s s1 s2 => ex 12 s (by omega) s1 s2
  have main : ∀ (k d : Nat) (s : Int), 12 - ps s ≤ k → k + 3 ≤ d → 0 ≤ s → s < S.I a 10 → mm_ev E d 217 [.ref (mm_ad B 101), .int (mm_i s), .int (mm_i t)] (mm_hp B S c) = mm_oI (pp_cd S a s t) (mm_hp B S c) := by
    intro k
    induction k with
    | zero =>
      intro d s hk
      have := hB.1 s
      omega
    | succ k ih =>
      intro d s hk hd h1 h2
      refine mm_v217 (by omega) (fun F e hF he => ?_)
      rw [mm_e217_0]
      simp (disch := omega) only [mm_br_le, mm_ptM, mm_hm]
      rw [if_pos h3]
      have l := l_called (E := E) (d := e) (B := B) (c := c) (t := t) (G := fun k => pp_cd S a k t) hV (by omega) h1 h2 (fun j hj => ih e j (by have := hB.2 s j hj; omega) (by omega) (pp_Wf_in _ _ s j hj).2.2.1 (pp_Wf_in _ _ s j hj).2.2.2) (S.A 106 (40 * s + t)) (S.I a 10).toNat 0 (F + 99) (by omega) (by omega)
      have z : S.A 106 (40 * s + t) + pp_sm (fun j => if pp_Wf (S.I a 10) (S.A (a + 3)) s j = true then pp_cd S a j t else 0) 0 = S.A 106 (40 * s + t) := Int.add_zero _
      rw [z] at l
      have q := hQ s h1 h2
      have q : pp_cd S a s t = S.A (a + 6) (s * 40 + t) + _ := q
      rw [q, ← hE (s * 40 + t) (by omega) (by omega), show s * 40 + t = 40 * s + t by omega]
      exact l
  exact main 12 d s (by omega) hd h1 h2
theorem l_calls1 {s : Int} (hd : 15 ≤ d) (ha : a = 3 ∨ a = 14 ∨ a = 25) (hT : pp_NT S a) (hR : pp_RL S a (S.A 102)) (hE : ∀ i : Int, 0 ≤ i → i < S.I a 10 * 40 → S.A 106 i = S.A (a + 6) i) (h1 : 0 ≤ s) (h2 : s < S.I a 10) : ∀ (j k n : Nat) (f : Int → Int), k + j = 40 → j < n → (∀ i : Int, 0 ≤ i → i < k → f i = pp_cd S a s i) → ∃ m f', n ≤ m + j + 1 ∧ (∀ i : Int, 0 ≤ i → i < 40 → f' i = pp_cd S a s i) ∧ mm_r218_2 E (mm_ev E d) n (mm_ad B 101) (mm_i s) (mm_i k) (mm_hp B (S.sA 117 f) c) = mm_r218_28 E (mm_ev E d) m (mm_ad B 101) (mm_i s) (mm_i 0) (mm_hp B (S.sA 117 f') c) := by
  intro j
  induction j with
  | zero =>
    intro k n f hk hj hf
    obtain ⟨n, rfl⟩ : ∃ q, n = q + 1 := ⟨n - 1, by omega⟩
    refine ⟨n, f, by omega, fun i i1 i2 => hf i i1 (by omega), ?_⟩
    rw [mm_e218_2]
    simp (disch := omega) only [mm_br_le]
    rw [if_pos (by omega)]
  | succ j ih =>
    intro k n f hk hj hf
    obtain ⟨n, rfl⟩ : ∃ q, n = q + 1 := ⟨n - 1, by omega⟩
    have b1 : (S.sA 117 f).A (a + 3) = S.A (a + 3) := mm_gA_ne (by omega)
    have b6 : (S.sA 117 f).A (a + 6) = S.A (a + 6) := mm_gA_ne (by omega)
    have hT2 : pp_NT (S.sA 117 f) a := by
      refine ⟨pp_NK_cg hT.1 rfl rfl (mm_gA_ne (by omega)) b1 (mm_gA_ne (by omega)), pp_GK_cg hT.2.1 rfl b1 (mm_gA_ne (by omega)), ?_⟩
      rw [b1, mm_gA_ne (by omega), mm_gA_ne (by omega), mm_gA_ne (by omega), mm_gA_ne (by omega), mm_gA_ne (by omega)]
      exact hT.2.2
    have hR2 : pp_RL (S.sA 117 f) a ((S.sA 117 f).A 102) := by
      rw [mm_gA_ne (by omega)]
      exact pp_RL_cg hR rfl rfl (mm_gA_ne (by omega)) (mm_gA_ne (by omega)) b1
    have ce : pp_cd (S.sA 117 f) a s k = pp_cd S a s k := by unfold pp_cd; rw [b1, b6]; rfl
    obtain ⟨m, f', q1, q2, q3⟩ := ih (k + 1) n (mm_u f k (pp_cd S a s k)) (by omega) (by omega) (fun i i1 i2 => by
      by_cases e : i = k
      · rw [e, mm_u_eq]
      · rw [mm_u_ne e]; exact hf i i1 (by omega))
    refine ⟨m, f', by omega, q2, ?_⟩
    rw [Int.natCast_add, Int.natCast_one] at q3
    rw [← q3, mm_e218_2]
    simp (disch := omega) only [mm_br_le, mm_ptM]
    rw [if_neg (by omega), m_called hT2 hR2 (by rw [b6, mm_gA_ne (by omega)]; exact hE) hd h1 h2 (by omega) (by omega), ce]
    simp (disch := omega) only [mm_hm, mm_ptM, mm_gs]
theorem l_calls2 {s : Int} (hd : 17 ≤ d) (ha : a = 3 ∨ a = 14 ∨ a = 25) (hT : pp_NT S a) (hR : pp_RL S a (S.A 102)) (h1 : 0 ≤ s) (h2 : s < S.I a 10) : ∀ (j k n : Nat) (f : Int → Int), k + j = 41 → j < n → (∀ i : Int, 0 ≤ i → i < k → f i = i * S.A (a + 8) s + pp_rt (pp_qd (S.I a 11) (S.A (a + 9) s) i)) → ∃ f', (∀ i : Int, 0 ≤ i → i < 41 → f' i = i * S.A (a + 8) s + pp_rt (pp_qd (S.I a 11) (S.A (a + 9) s) i)) ∧ mm_r218_28 E (mm_ev E d) n (mm_ad B 101) (mm_i s) (mm_i k) (mm_hp B (S.sA 118 f) c) = mm_oV (mm_hp B (S.sA 118 f') c) := by
  intro j
  induction j with
  | zero =>
    intro k n f hk hj hf
    obtain ⟨n, rfl⟩ : ∃ q, n = q + 1 := ⟨n - 1, by omega⟩
    refine ⟨f, fun i i1 i2 => hf i i1 (by omega), ?_⟩
    rw [mm_e218_28]
    simp (disch := omega) only [mm_br_lt]
    rw [if_pos (by omega)]
  | succ j ih =>
    intro k n f hk hj hf
    obtain ⟨n, rfl⟩ : ∃ q, n = q + 1 := ⟨n - 1, by omega⟩
    have b1 : (S.sA 118 f).A (a + 3) = S.A (a + 3) := mm_gA_ne (by omega)
    have b8 : (S.sA 118 f).A (a + 8) = S.A (a + 8) := mm_gA_ne (by omega)
    have b9 : (S.sA 118 f).A (a + 9) = S.A (a + 9) := mm_gA_ne (by omega)
    have hT2 : pp_NT (S.sA 118 f) a := by
      refine ⟨pp_NK_cg hT.1 rfl rfl (mm_gA_ne (by omega)) b1 (mm_gA_ne (by omega)), pp_GK_cg hT.2.1 rfl b1 (mm_gA_ne (by omega)), ?_⟩
      rw [b1, mm_gA_ne (by omega), mm_gA_ne (by omega), mm_gA_ne (by omega), mm_gA_ne (by omega), mm_gA_ne (by omega)]
      exact hT.2.2
    have hR2 : pp_RL (S.sA 118 f) a ((S.sA 118 f).A 102) := by
      rw [mm_gA_ne (by omega)]
      exact pp_RL_cg hR rfl rfl (mm_gA_ne (by omega)) (mm_gA_ne (by omega)) b1
    obtain ⟨f', q2, q3⟩ := ih (k + 1) n (mm_u f k (k * S.A (a + 8) s + pp_rt (pp_qd (S.I a 11) (S.A (a + 9) s) k))) (by omega) (by omega) (fun i i1 i2 => by
      by_cases e : i = k
      · rw [e, mm_u_eq]
      · rw [mm_u_ne e]; exact hf i i1 (by omega))
    refine ⟨f', q2, ?_⟩
    rw [Int.natCast_add, Int.natCast_one] at q3
    rw [← q3, mm_e218_28]
    simp (disch := omega) only [mm_br_lt, mm_ptM]
    rw [if_neg (by omega), m_bound hT2 hR2 hd h1 h2 ⟨by omega, by omega⟩, b8, b9]
    simp (disch := omega) only [mm_hm, mm_ptM, mm_gs]
theorem m_layCalls {s : Int} (hd : 18 ≤ d) (ha : a = 3 ∨ a = 14 ∨ a = 25) (hT : pp_NT S a) (hR : pp_RL S a (S.A 102)) (hE : ∀ i : Int, 0 ≤ i → i < S.I a 10 * 40 → S.A 106 i = S.A (a + 6) i) (h1 : 0 ≤ s) (h2 : s < S.I a 10) : ∃ f g, (∀ i : Int, 0 ≤ i → i < 40 → f i = pp_cd S a s i) ∧ (∀ i : Int, 0 ≤ i → i < 41 → g i = i * S.A (a + 8) s + pp_rt (pp_qd (S.I a 11) (S.A (a + 9) s) i)) ∧ mm_ev E d 218 [.ref (mm_ad B 101), .int (mm_i s)] (mm_hp B S c) = mm_oV (mm_hp B ((S.sA 117 f).sA 118 g) c) := by
  obtain ⟨e, rfl⟩ : ∃ e, d = e + 1 := ⟨d - 1, by omega⟩
  obtain ⟨F, hF, h⟩ := mm_w218 E e B S c (mm_i s)
  obtain ⟨m, f, q1, q2, q3⟩ := l_calls1 (E := E) (d := e) (B := B) (S := S) (c := c) (by omega) ha hT hR hE h1 h2 40 0 (F + 99) (S.A 117) (by omega) (by omega) (fun i i1 i2 => by omega)
  rw [pp_sA_id] at q3
  have q3 : mm_r218_2 E (mm_ev E e) (F + 99) (mm_ad B 101) (mm_i s) (mm_i 0) (mm_hp B S c) = _ := q3
  have b1 : (S.sA 117 f).A (a + 3) = S.A (a + 3) := mm_gA_ne (by omega)
  have b8 : (S.sA 117 f).A (a + 8) = S.A (a + 8) := mm_gA_ne (by omega)
  have b9 : (S.sA 117 f).A (a + 9) = S.A (a + 9) := mm_gA_ne (by omega)
  have hT2 : pp_NT (S.sA 117 f) a := by
    refine ⟨pp_NK_cg hT.1 rfl rfl (mm_gA_ne (by omega)) b1 (mm_gA_ne (by omega)), pp_GK_cg hT.2.1 rfl b1 (mm_gA_ne (by omega)), ?_⟩
    rw [b1, mm_gA_ne (by omega), mm_gA_ne (by omega), mm_gA_ne (by omega), mm_gA_ne (by omega), mm_gA_ne (by omega)]
    exact hT.2.2
  have hR2 : pp_RL (S.sA 117 f) a ((S.sA 117 f).A 102) := by
    rw [mm_gA_ne (by omega)]
    exact pp_RL_cg hR rfl rfl (mm_gA_ne (by omega)) (mm_gA_ne (by omega)) b1
  obtain ⟨g, g1, g2⟩ := l_calls2 (E := E) (d := e) (B := B) (S := S.sA 117 f) (c := c) (by omega) ha hT2 hR2 h1 h2 41 0 m ((S.sA 117 f).A 118) (by omega) (by omega) (fun i i1 i2 => by omega)
  rw [pp_sA_id] at g2
  rw [b8, b9] at g1
  refine ⟨f, g, q2, g1, ?_⟩
  rw [h, mm_e218_0, q3]
  exact g2
-- the three arguments of days
theorem l_onHandM {g : Int → Int} {s x nd b : Int} (h1 : 0 ≤ s) (h2 : s < 12) (hx : 0 ≤ x) (hx2 : x < 40) (ht : 0 ≤ S.A 105 s ∧ S.A 105 s ≤ 119) (hn : 0 ≤ nd ∧ nd ≤ 128) (hg : ∀ i : Int, 0 ≤ i → i < 40 → S.A 117 i = g i) {cl : mm_F} {x3 : Int32} : ∀ (j n : Nat) (y : Int), y + j = x - S.A 105 s + 1 → x - S.A 105 s - nd + 1 ≤ y → j < n → mm_r219_43 E cl n (mm_ad B 101) (mm_i s) (mm_i x) x3 (mm_i (b - (pp_sm g y.toNat - pp_sm g (x - S.A 105 s - nd + 1).toNat))) (mm_i y) (mm_hp B S c) = mm_oI (pp_oh g b (S.A 105 s) nd x) (mm_hp B S c) := by
  intro j
  induction j with
  | zero =>
    intro n y hy hy2 hj
    obtain ⟨n, rfl⟩ : ∃ q, n = q + 1 := ⟨n - 1, by omega⟩
    rw [mm_e219_43]
    simp (disch := omega) only [mm_ptM, mm_hm, mm_br_lt]
    rw [if_pos (by omega), show y = x - S.A 105 s + 1 by omega]
    rfl
  | succ j ih =>
    intro n y hy hy2 hj
    obtain ⟨n, rfl⟩ : ∃ q, n = q + 1 := ⟨n - 1, by omega⟩
    have ih := ih n (y + 1) (by omega) (by omega) (by omega)
    rw [mm_e219_43]
    simp (disch := omega) only [mm_ptM, mm_hm, mm_br_lt, mm_br_le]
    rw [if_neg (by omega), ← ih]
    by_cases e : 0 ≤ y
    · rw [if_pos e]
      have e2 : b - (pp_sm g y.toNat - pp_sm g (x - S.A 105 s - nd + 1).toNat) - g y = b - (pp_sm g y.toNat + g y - pp_sm g (x - S.A 105 s - nd + 1).toNat) := by omega
      rw [hg y e (by omega), show (y + 1).toNat = y.toNat + 1 by omega, pp_sm, show ((y.toNat : Nat) : Int) = y by omega, e2]
    · rw [if_neg e, show (y + 1).toNat = y.toNat by omega, Int.sub_zero]
theorem m_onHand {s x : Int} {g : Int → Int} (hd : 18 ≤ d) (hT : pp_NT S a) (hR : pp_RL S a (S.A 102)) (hM : pp_TM S a) (hE : ∀ s : Int, 0 ≤ s → s < S.I a 10 → S.A 105 s = S.A (a + 5) s) (h1 : 0 ≤ s) (h2 : s < S.I a 10) (hx : 0 ≤ x) (hx2 : x < 40) (hg : ∀ i : Int, 0 ≤ i → i < 40 → S.A 117 i = g i) : mm_ev E d 219 [.ref (mm_ad B 101), .int (mm_i s), .int (mm_i x)] (mm_hp B S c) = mm_oI (if pp_nd S a s < 0 then -1000000 else pp_oh g (pp_nd S a s * S.A (a + 8) s + pp_rt (pp_qd (S.I a 11) (S.A (a + 9) s) (pp_nd S a s))) (S.A (a + 5) s) (pp_nd S a s) x) (mm_hp B S c) := by
  refine mm_v219 (by omega) (fun F e hF he => ?_)
  have hn := hT.1.1
  have nr := pp_nd_r hT.1 hM h1 h2
  have m := hM s h1 (by omega)
  have tt := hE s h1 h2
  rw [mm_e219_0, m_netOf (by omega) hT.1 hR hM hE h1 h2]
  simp (disch := omega) only [mm_hm, mm_br_le, mm_br_eq]
  by_cases e0 : 0 ≤ pp_nd S a s
  · have e1 : ¬ pp_nd S a s < 0 := by omega
    have fin : mm_r219_29 E (mm_ev E e) (F + 99) (mm_ad B 101) (mm_i s) (mm_i x) (mm_i (pp_nd S a s)) (mm_i (pp_nd S a s * S.A (a + 8) s + pp_rt (pp_qd (S.I a 11) (S.A (a + 9) s) (pp_nd S a s)))) none (mm_hp B S c) = mm_oI (pp_oh g (pp_nd S a s * S.A (a + 8) s + pp_rt (pp_qd (S.I a 11) (S.A (a + 9) s) (pp_nd S a s))) (S.A (a + 5) s) (pp_nd S a s) x) (mm_hp B S c) := by
      rw [mm_e219_29]
      simp (disch := omega) only [mm_ptM, mm_hm]
      have l := l_onHandM (E := E) (B := B) (S := S) (c := c) (g := g) (s := s) (x := x) (nd := pp_nd S a s) (b := pp_nd S a s * S.A (a + 8) s + pp_rt (pp_qd (S.I a 11) (S.A (a + 9) s) (pp_nd S a s))) (cl := mm_ev E e) (x3 := mm_i (pp_nd S a s)) h1 (by omega) hx hx2 (by omega) (by omega) hg (pp_nd S a s).toNat (F + 98) (x - S.A 105 s - pp_nd S a s + 1) (by omega) (by omega) (by omega)
      rw [Int.sub_self, Int.sub_zero] at l
      rw [l, tt]
    rw [if_pos e0, if_neg e1, ← fin]
    by_cases e2 : pp_nd S a s = 0
    · rw [if_pos e2]
      have z : pp_nd S a s * S.A (a + 8) s + pp_rt (pp_qd (S.I a 11) (S.A (a + 9) s) (pp_nd S a s)) = 0 := by
        rw [e2, Int.zero_mul, Int.zero_add]
        refine pp_rt_eq ⟨by omega, ?_, fun y y1 y2 => by omega⟩
        unfold pp_qd
        rw [Int.mul_zero]
        omega
      rw [z]
    · rw [if_neg e2, m_bound hT hR (by omega) h1 h2 ⟨e0, by omega⟩, mm_cI_ok]
  · rw [if_neg e0, if_pos (by omega)]
theorem l_breaking {g bd : Int → Int} {x : Int} (hx : 0 ≤ x) (hx2 : x < 40) (hg : ∀ i : Int, 0 ≤ i → i < 40 → S.A 117 i = g i) (hb : ∀ i : Int, 0 ≤ i → i ≤ 40 → S.A 118 i = bd i ∧ 0 ≤ bd i ∧ bd i ≤ 1000000) (hs : ∀ k : Nat, k ≤ 40 → 0 ≤ pp_sm g k ∧ pp_sm g k ≤ 479520) {cl : mm_F} : ∀ (j m n : Nat), (m : Int) + j = x + 1 → 2 * j < n → mm_r220_7 E cl n (mm_ad B 101) (mm_i x) (mm_i (pp_lb (pp_bk g bd x) m)) (mm_i (pp_sm g (x + 1).toNat - pp_sm g (x - m + 1).toNat)) (mm_i ((m : Int) + 1)) (mm_hp B S c) = mm_oI (pp_lb (pp_bk g bd x) (x + 1).toNat) (mm_hp B S c) := by
  intro j
  induction j with
  | zero =>
    intro m n hm hj
    obtain ⟨n, rfl⟩ : ∃ q, n = q + 1 := ⟨n - 1, by omega⟩
    rw [mm_e220_7]
    simp (disch := omega) only [mm_hm, mm_br_lt]
    rw [if_pos (by omega), show (x + 1).toNat = m by omega]
  | succ j ih =>
    intro m n hm hj
    obtain ⟨n, rfl⟩ : ∃ q, n = q + 2 := ⟨n - 2, by omega⟩
    have ih := ih (m + 1) n (by omega) (by omega)
    rw [Int.natCast_add, Int.natCast_one, pp_lb] at ih
    have b := hb ((m : Int) + 1) (by omega) (by omega)
    have q1 := hs (x + 1).toNat (by omega)
    have q2 := hs (x - ((m : Int) + 1) + 1).toNat (by omega)
    have q3 : pp_sm g (x - m + 1).toNat = pp_sm g (x - ((m : Int) + 1) + 1).toNat + g (x - m) := by
      rw [show (x - (m : Int) + 1).toNat = (x - ((m : Int) + 1) + 1).toNat + 1 by omega, pp_sm, show (((x - ((m : Int) + 1) + 1).toNat : Nat) : Int) = x - m by omega]
    rw [mm_e220_7]
    simp (disch := omega) only [mm_hm, mm_br_lt, mm_ptM, mm_e220_29]
    rw [if_neg (by omega), show x - ((m : Int) + 1) + 1 = x - m by omega, hg (x - m) (by omega) (by omega), b.1, show pp_sm g (x + 1).toNat - pp_sm g (x - m + 1).toNat + g (x - m) = pp_sm g (x + 1).toNat - pp_sm g (x - ((m : Int) + 1) + 1).toNat by omega, mm_br_le (by omega) (by omega) (by omega) (by omega), ← ih]
    by_cases e : pp_bk g bd x ((m : Int) + 1) = true
    · have e2 := of_decide_eq_true e
      rw [if_pos e, if_neg (by omega)]
    · have e2 : ¬ _ := fun z => e (decide_eq_true z)
      rw [if_neg e, if_pos (by omega)]
theorem m_breaking {g bd : Int → Int} {x : Int} (hd : 1 ≤ d) (hx : 0 ≤ x) (hx2 : x < 40) (hg : ∀ i : Int, 0 ≤ i → i < 40 → S.A 117 i = g i) (hb : ∀ i : Int, 0 ≤ i → i ≤ 40 → S.A 118 i = bd i ∧ 0 ≤ bd i ∧ bd i ≤ 1000000) (hs : ∀ k : Nat, k ≤ 40 → 0 ≤ pp_sm g k ∧ pp_sm g k ≤ 479520) : mm_ev E d 220 [.ref (mm_ad B 101), .int (mm_i x)] (mm_hp B S c) = mm_oI (pp_lb (pp_bk g bd x) (x + 1).toNat) (mm_hp B S c) := by
  refine mm_v220 (by omega) (fun F e hF he => ?_)
  rw [mm_e220_0]
  have l := l_breaking (E := E) (B := B) (S := S) (c := c) (cl := mm_ev E e) hx hx2 hg hb hs (x + 1).toNat 0 (F + 99) (by omega) (by omega)
  have z : pp_sm g (x + 1).toNat - pp_sm g (x - ((0 : Nat) : Int) + 1).toNat = 0 := by
    rw [show x - ((0 : Nat) : Int) + 1 = x + 1 by omega]; omega
  rw [z] at l
  exact l
end DAYS3
