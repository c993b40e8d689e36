/-! UNDO -/
theorem iv_shS {f g : Int → Int} {x t : Int} (hRf : pp_RO f) (hRg : pp_RO g) (h2 : f 2 = g 2 + 1) (hp : ∀ l : Int, 0 ≤ l → l < g 2 → f (159 + 2 * l) = g (159 + 2 * l) ∧ f (159 + 2 * l + 1) = g (159 + 2 * l + 1)) (h6 : f (159 + 2 * g 2) = g 0 ∨ f (159 + 2 * g 2 + 1) = g 0) (x0 : 0 ≤ x) : (mm_bt (mm_sup f t) x && !decide (x = g 0 ∨ t = g 0)) = mm_bt (mm_sup g t) x := by
  rw [Bool.eq_iff_iff, Bool.and_eq_true, mm_sup_bt (pp_RO_PR hRf) x0, mm_sup_bt (pp_RO_PR hRg) x0]
  constructor
  · rintro ⟨⟨l, l0, l1, l2, l3⟩, y⟩
    have y : ¬ (x = g 0 ∨ t = g 0) := fun w => by rw [decide_eq_true w] at y; cases y
    by_cases q : l = g 2
    · rw [q] at l2 l3
      rw [l2, l3] at h6
      exact absurd h6 y
    · have z := hp l l0 (by omega)
      exact ⟨l, l0, by omega, by rw [← z.1]; exact l2, by rw [← z.2]; exact l3⟩
  · rintro ⟨l, l0, l1, l2, l3⟩
    have z := hp l l0 l1
    have r := hRg.2.2.2.1 l l0 l1
    refine ⟨⟨l, l0, by omega, by rw [z.1]; exact l2, by rw [z.2]; exact l3⟩, ?_⟩
    rw [decide_eq_false (by omega)]
    rfl
theorem iv_shC {f g : Int → Int} {x t : Int} (hRf : pp_RO f) (hRg : pp_RO g) (h2 : f 2 = g 2 + 1) (hp : ∀ l : Int, 0 ≤ l → l < g 2 → f (159 + 2 * l) = g (159 + 2 * l) ∧ f (159 + 2 * l + 1) = g (159 + 2 * l + 1)) (h6 : f (159 + 2 * g 2) = g 0 ∨ f (159 + 2 * g 2 + 1) = g 0) (x0 : 0 ≤ x) : (mm_bt (mm_cus f t) x && !decide (t = g 0 ∨ x = g 0)) = mm_bt (mm_cus g t) x := by
  rw [Bool.eq_iff_iff, Bool.and_eq_true, mm_cus_bt (pp_RO_PR hRf) x0, mm_cus_bt (pp_RO_PR hRg) x0]
  constructor
  · rintro ⟨⟨l, l0, l1, l2, l3⟩, y⟩
    have y : ¬ (t = g 0 ∨ x = g 0) := fun w => by rw [decide_eq_true w] at y; cases y
    by_cases q : l = g 2
    · rw [q] at l2 l3
      rw [l2, l3] at h6
      exact absurd h6 y
    · have z := hp l l0 (by omega)
      exact ⟨l, l0, by omega, by rw [← z.1]; exact l2, by rw [← z.2]; exact l3⟩
  · rintro ⟨l, l0, l1, l2, l3⟩
    have z := hp l l0 l1
    have r := hRg.2.2.2.1 l l0 l1
    refine ⟨⟨l, l0, by omega, by rw [z.1]; exact l2, by rw [z.2]; exact l3⟩, ?_⟩
    rw [decide_eq_false (by omega)]
    rfl
theorem iv_stR2 {k s w : Int} {f g : Int → Int} (hR : pp_RO g) (h2 : iv_R2 f) (h : iv_st k s w f g) : iv_R2 g := fun t t0 t1 => by
  have n := hR.1
  rcases h with h | h | h | h
  · obtain ⟨h1, h3, h4, h5⟩ := h
    have z0 := h5 0 (by omega) (by omega)
    rw [if_neg (by omega)] at z0
    have z := h5 (3 + 7 * t + 5) (by omega) (by omega)
    by_cases q : 3 + 7 * t + 5 = 3 + 7 * s + k
    · rw [if_pos q] at z
      have : k = 5 := by omega
      rw [this] at h4
      have o5 : pp_mo 5 = 20 := by decide
      omega
    · rw [if_neg q] at z
      rw [z]
      exact h2 t t0 (by omega)
  · have z0 := h.2.2 0 (by omega) (by omega)
    rw [if_neg (by omega)] at z0
    have z := h.2.2 (3 + 7 * t + 5) (by omega) (by omega)
    rw [if_neg (by omega)] at z
    rw [z]
    exact h2 t t0 (by omega)
  · have z := h.2.2.2.2.2.2.1 t 5 t0 t1 (by omega) (by omega)
    rw [← z]
    exact h2 t t0 (by have := h.2.1; omega)
  · have z := h.2.2.2.2.2.2.2.1 t 5 t0 t1 (by omega) (by omega)
    rw [← z]
    exact h2 t t0 (by have := h.2.1; omega)
section
variable {E : mm_E} {d B : Nat} {S : mm_S} {c : mm_N}
/-- one act taken back by the class -/
theorem iv_tb {f g : Int → Int} {kd st ws : Int} (hd : 3 ≤ d) (hR : pp_RO f) (hQ : pp_EQ S 3 f) (hg : pp_RO g) (h : iv_st kd st ws f g) (t8 : ∀ s : Int, 0 ≤ s → s < 12 → f 0 ≤ s → S.A 8 s = 0) (t9 : ∀ i : Int, 0 ≤ i → i < 480 → f 0 * 40 ≤ i → S.A 9 i = 0) : ∃ V, mm_ev E d 141 [.ref (mm_ad B 0), .int (mm_i kd), .int (mm_i st), .int (mm_i ws)] (mm_hp B S c) = mm_oV (mm_hp B V c) ∧ pp_EQ V 3 g ∧ (∀ x k, x ≠ 3 ∨ k = 12 → V.I x k = S.I x k) ∧ (∀ x, ¬ (4 ≤ x ∧ x ≤ 9) → V.A x = S.A x) ∧ (∀ i : Int, 0 ≤ i → i < 12 → V.A 8 i = if i < g 0 then S.A 8 i else 0) ∧ (∀ i : Int, 0 ≤ i → i < 480 → V.A 9 i = if i < 40 * g 0 then S.A 9 i else 0) := by
  have nf := hR.1
  have mf := hR.2.2.1
  have ng := hg.1
  have mg := hg.2.2.1
  have q0 := hQ.1
  have hNK := pp_EQ_NK hR hQ
  have same : g 0 = f 0 → (∀ i : Int, 0 ≤ i → i < 12 → S.A 8 i = if i < g 0 then S.A 8 i else 0) ∧ (∀ i : Int, 0 ≤ i → i < 480 → S.A 9 i = if i < 40 * g 0 then S.A 9 i else 0) := fun z => by
    refine ⟨fun i i0 i1 => ?_, fun i i0 i1 => ?_⟩
    · by_cases q : i < g 0
      · rw [if_pos q]
      · rw [if_neg q]; exact t8 i i0 i1 (by omega)
    · by_cases q : i < 40 * g 0
      · rw [if_pos q]
      · rw [if_neg q]; exact t9 i i0 i1 (by omega)
  rcases h with h | h | h | h
  · obtain ⟨h1, h3, h4, h5⟩ := h
    have m : ∀ i : Int, 0 ≤ i → i < 190 → i ≠ 3 + 7 * st + kd → g i = f i := fun i i0 i1 i2 => by rw [h5 i i0 i1, if_neg i2]
    have g0 := m 0 (by omega) (by omega) (by omega)
    have s := same g0
    refine ⟨S.sA (3 + 1) (mm_u (S.A (3 + 1)) (st * 7 + kd) ws), mm_v141 (by omega) (fun F e hF he => ?_), ?_, fun x k _ => rfl, fun x hx => mm_gA_ne (by omega), s.1, s.2⟩
    · rw [mm_e141_0, mm_br_eq (by omega) (by omega) (by omega) (by omega), if_neg (by omega), mm_br_eq (by omega) (by omega) (by omega) (by omega), if_neg (by omega), mm_br_eq (by omega) (by omega) (by omega) (by omega), if_neg (by omega)]
      simp (disch := omega) only [mm_ptP]
      rw [c_tell (by omega) (by omega) h3.1 (by omega) h1.1 h1.2, mm_cV_ok]
    · refine pp_EQ_told (S := S) hQ rfl rfl rfl rfl rfl rfl h1.1 h1.2 h4.1 h4.2 g0 (m 1 (by omega) (by omega) (by omega)) ⟨m 2 (by omega) (by omega) (by omega), fun l l0 l1 => ⟨m _ (by omega) (by omega) (by omega), m _ (by omega) (by omega) (by omega)⟩⟩ (fun t u t0 t1 u0 u1 => ?_) (fun t u t0 t1 u0 u1 => m _ (by omega) (by omega) (by omega))
      rw [h5 _ (by omega) (by omega)]
      by_cases q : t = st ∧ u = kd
      · rw [if_pos q, if_pos (by omega)]
      · rw [if_neg q, if_neg (by omega)]
  · obtain ⟨h1, h4, h5⟩ := h
    have m : ∀ i : Int, 0 ≤ i → i < 190 → i ≠ 1 → g i = f i := fun i i0 i1 i2 => by rw [h5 i i0 i1, if_neg i2]
    have g0 := m 0 (by omega) (by omega) (by omega)
    have g1 := h5 1 (by omega) (by omega)
    rw [if_pos rfl] at g1
    have s := same g0
    refine ⟨S.sI 3 11 ws, mm_v141 (by omega) (fun F e hF he => ?_), pp_EQ_z (S := S) hQ (mm_gI_ne (by omega)) (mm_gs.1 _ _ _ _) rfl rfl rfl rfl g0 g1 ⟨m 2 (by omega) (by omega) (by omega), fun l l0 l1 => ⟨m _ (by omega) (by omega) (by omega), m _ (by omega) (by omega) (by omega)⟩⟩ (fun t u t0 t1 u0 u1 => m _ (by omega) (by omega) (by omega)) (fun t u t0 t1 u0 u1 => m _ (by omega) (by omega) (by omega)), fun x k hx => mm_gI_ne (by omega), fun x hx => rfl, s.1, s.2⟩
    rw [mm_e141_0, mm_br_eq (by omega) (by omega) (by omega) (by omega), if_pos (by omega)]
    simp (disch := omega) only [mm_ptP, mm_ptN]
  · obtain ⟨h1, h3, h4, h5, h6, h7, h8, h9⟩ := h
    obtain ⟨F, G, nm, dm, s1, s2, s3, s4, s5, s6, s7, s8⟩ := c_shrink (E := E) (d := d - 1) (B := B) (S := S) (c := c) (a := 3) (m := g 0) (by omega) (by omega) (by omega) (by omega) (by omega) hNK.2.2.1 hNK.2.2.2.1
    obtain ⟨V, hV⟩ : ∃ V, V = ((((((S.sI 3 10 (g 0)).sA (3 + 2) nm).sA (3 + 3) F).sA (3 + 4) G).sA (3 + 5) (mm_u (S.A (3 + 5)) (g 0) 0)).sA (3 + 6) dm) := ⟨_, rfl⟩
    rw [← hV] at s8
    have v8 : V.A 8 = mm_u (S.A 8) (g 0) 0 := by rw [hV]; rfl
    have v9 : V.A 9 = dm := by rw [hV]; rfl
    refine ⟨V, mm_v141 (by omega) (fun F e hF he => ?_), ⟨?_, ?_, fun t t0 t1 => ?_, fun t u t0 t1 u0 u1 => ?_, ?_, fun t u t0 t1 u0 u1 => ?_, fun t u t0 t1 u0 u1 => ?_⟩, fun x k hx => ?_, fun x hx => ?_, fun i i0 i1 => ?_, fun i i0 i1 => ?_⟩
    · obtain rfl : e = d - 1 := by omega
      rw [mm_e141_0, mm_br_eq (by omega) (by omega) (by omega) (by omega), if_neg (by omega), mm_br_eq (by omega) (by omega) (by omega) (by omega), if_pos (by omega)]
      simp (disch := omega) only [mm_ptP]
      rw [s8, mm_cV_ok]
    · rw [hV]; exact mm_gs.1 _ _ _ _
    · rw [hV, h4, ← hQ.2.1]; rfl
    · have y := hQ.2.2.1 t t0 t1
      have e3 : V.A (3 + 3) = F := by rw [hV]; rfl
      have e4 : V.A (3 + 4) = G := by rw [hV]; rfl
      rw [e3, e4]
      have rs := mm_sup_r t (pp_RO_PR hg)
      have rc := mm_cus_r t (pp_RO_PR hg)
      refine ⟨mm_bset_ext (s1 t t0 t1).1 (s1 t t0 t1).2 rs.1 rs.2 (fun x x0 x1 => ?_), mm_bset_ext (s2 t t0 t1).1 (s2 t t0 t1).2 rc.1 rc.2 (fun x x0 x1 => ?_)⟩
      · rw [(s3 x t x0 x1 t0 t1).1, y.1]
        exact iv_shS hR hg h5 h6 h7 x0
      · rw [(s3 t x t0 t1 x0 x1).2, y.2]
        exact iv_shC hR hg h5 h6 h7 x0
    · have e1 : V.A (3 + 1) = S.A (3 + 1) := by rw [hV]; rfl
      rw [e1, hQ.2.2.2.1 t u t0 (by omega) u0 u1]
      exact h8 t u t0 t1 u0 u1
    · have e1 : V.A (3 + 1) = S.A (3 + 1) := by rw [hV]; rfl
      rw [e1]
      exact hQ.2.2.2.2.1
    · have e2 : V.A (3 + 2) = nm := by rw [hV]; rfl
      rw [e2, s5 _ (by omega), hQ.2.2.2.2.2.1 t u t0 (by omega) u0 u1]
      exact h9 t u t0 t1 u0 u1
    · have e2 : V.A (3 + 2) = nm := by rw [hV]; rfl
      rw [e2]
      by_cases q : t = g 0
      · rw [q]; exact s4 u u0 u1
      · rw [s5 _ (by omega)]
        exact hQ.2.2.2.2.2.2 t u (by omega) t1 u0 u1
    · rw [hV]
      show (S.sI 3 10 (g 0)).I x k = _
      exact mm_gI_ne (by omega)
    · rw [hV, mm_gA_ne (by omega), mm_gA_ne (by omega), mm_gA_ne (by omega), mm_gA_ne (by omega), mm_gA_ne (by omega)]
      rfl
    · rw [v8]
      by_cases q : i < g 0
      · rw [if_pos q, mm_u_ne (by omega)]
      · rw [if_neg q]
        by_cases q2 : i = g 0
        · rw [q2, mm_u_eq]
        · rw [mm_u_ne q2]; exact t8 i i0 i1 (by omega)
    · rw [v9]
      by_cases q : i < 40 * g 0
      · rw [if_pos q, s7 i (by omega)]
      · rw [if_neg q]
        by_cases q2 : i < g 0 * 40 + 40
        · have y := s6 (i - g 0 * 40) (by omega) (by omega)
          rw [show g 0 * 40 + (i - g 0 * 40) = i by omega] at y
          exact y
        · rw [s7 i (by omega)]
          exact t9 i i0 i1 (by omega)
  · obtain ⟨h1, h3, h4, h5, h6, h7, h8, h9, h10⟩ := h
    have s := same h3.symm
    have b3 := hNK.2.2.1 ws h7.1 (by omega)
    have b4 := hNK.2.2.2.1 st h6.1 (by omega)
    refine ⟨(S.sA (3 + 3) (mm_u (S.A (3 + 3)) ws (mm_idf (S.A (3 + 3) ws) (mm_pw st)))).sA (3 + 4) (mm_u (S.A (3 + 4)) st (mm_idf (S.A (3 + 4) st) (mm_pw ws))), mm_v141 (by omega) (fun F e hF he => ?_), pp_EQ_part (S := S) (i := st) (j := ws) hg hQ rfl rfl rfl rfl h6.1 (by omega) h7.1 (by omega) rfl rfl h3 h4.symm h5 h9 h10 h8, fun x k _ => rfl, fun x hx => by rw [mm_gA_ne (by omega), mm_gA_ne (by omega)], s.1, s.2⟩
    rw [mm_e141_0, mm_br_eq (by omega) (by omega) (by omega) (by omega), if_neg (by omega), mm_br_eq (by omega) (by omega) (by omega) (by omega), if_neg (by omega), mm_br_eq (by omega) (by omega) (by omega) (by omega), if_pos (by omega)]
    simp (disch := omega) only [mm_ptP]
    rw [c_part (by omega) (by omega) h6.1 (by omega) h7.1 (by omega) b3.1 b4.1, mm_cV_ok]
end
