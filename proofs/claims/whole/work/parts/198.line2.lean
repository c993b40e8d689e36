/-! READING: a line -/
section
variable {E : mm_E} {d d' e e' B : Nat} {S T : mm_S} {c c' : mm_N}
/-- z: the class's method, the model's steps -/
theorem rd_z (h : rd_G S T) (hd : 5 ≤ e) (hd' : 5 ≤ e') (κ : mm_H → mm_R) : ∃ S' T', rd_FS S S' ∧ rd_FT T T' ∧ (mm_cV [] (mm_ev E e' 236 [.ref (mm_ad B 101)] (mm_hp B T c')) (fun h_8 => mm_gR h_8 (mm_ad B 101) 9 2 fun p_9 => mm_cI [] (mm_ev E e' 239 [.ref (mm_ad B 101), .int (mm_i 400)] h_8) fun v_11 h_10 => mm_wI h_10 p_9 (mm_i 1) v_11 κ)) = κ (mm_hp B T' c') ∧ ((mm_ev E e 85 [.ref (mm_ad B 96)] (mm_hp B S c) = mm_oI 1 (mm_hp B S' c) ∧ rd_G S' T' ∧ S.I 1 3 ≤ S'.I 1 3) ∨ (mm_ev E e 85 [.ref (mm_ad B 96)] (mm_hp B S c) = mm_oI 0 (mm_hp B S' c) ∧ rd_X S' T')) := by
  obtain ⟨f, rfl⟩ : ∃ f, e = f + 1 := ⟨e - 1, by omega⟩
  have h1 := rd_G_s h
  have p1 := rd_H_p h.1
  obtain ⟨F, hF1, hc⟩ := mm_w85 E f B S c
  rw [hc, mm_e85_0, rd_pas h.1.2.1 h.1.2.2.1 (by omega), mm_cV_ok]
  simp (disch := omega) only [mm_ptG, mm_ptM]
  rw [rd_adv h.1.1 (by omega), mm_cV_ok]
  obtain ⟨S1, hS1⟩ : ∃ S1, S1 = rd_s S := ⟨_, rfl⟩
  obtain ⟨T1, hT1⟩ : ∃ T1, T1 = rd_m T := ⟨_, rfl⟩
  have fS : rd_FS S S1 := by rw [hS1]; exact rd_FS_s S
  have fT : rd_FT T T1 := by rw [hT1]; exact rd_FT_m T
  rw [← hS1, ← hT1] at h1 ⊢
  rw [← hS1] at p1
  have k := h1.1.1
  have k67 := k.2.2.2.2.2
  simp (disch := omega) only [mm_ptG]
  simp (disch := omega) only [mm_ptT, mm_br_eq]
  by_cases q : S1.I 1 5 = 2
  · obtain ⟨N, n1, n2, n3⟩ := rd_num (E := E) (B := B) h1.1 q
    rw [if_pos q, n2 f c (by omega), mm_cI_ok, mm_br_le (by omega) (by omega) (by omega) (by omega), n3 e' c' 400 (by omega) (by omega) (by omega), mm_cI_ok]
    simp (disch := omega) only [mm_ptM]
    by_cases q2 : N ≤ 400
    · rw [if_pos q2, if_pos q2]
      simp (disch := omega) only [mm_ptG]
      rw [n2 f c (by omega), mm_cI_ok]
      simp (disch := omega) only [mm_ptN]
      rw [mm_e85_57]
      simp (disch := omega) only [mm_ptG]
      have vT : rd_T (S1.sI 14 11 N) T1 := rd_T_c (S := S1) (T := T1) (fun k hk => mm_gI_ne (by omega)) rfl (fun _ _ => rfl) rfl h1.1
      have vD : rd_D (S1.sI 14 11 N) (mm_u (T1.A 103) 1 N) := rd_D_z (S := S1) h1.2.2 (by omega) (mm_gI_ne (by omega)) (mm_gs.1 _ _ _ _) rfl rfl rfl rfl
      have vp := rd_H_p vT
      have v3 : (S1.sI 14 11 N).I 1 3 = S1.I 1 3 := mm_gI_ne (by omega)
      rw [rd_adv vT.1 (by omega), mm_cV_ok, mm_bz1, show min N 10000 = N by omega]
      refine ⟨rd_s (S1.sI 14 11 N), (rd_m T1).sA 103 (mm_u (T1.A 103) 1 N), rd_FS_t fS (rd_FS_t ⟨fun x k _ _ hx => mm_gI_ne (by omega), fun _ _ => rfl⟩ (rd_FS_s _)), rd_FT_t fT (rd_FT_t (rd_FT_m T1) (rd_FT_A _ _)), rfl, Or.inl ⟨rfl, ⟨rd_T_c (S := rd_s (S1.sI 14 11 N)) (T := rd_m T1) (fun _ _ => rfl) rfl (fun _ _ => rfl) rfl (rd_next vT).1, ?_, rd_D_c (S := S1.sI 14 11 N) (fun k _ => rd_sI (by omega)) (fun x _ _ => rfl) vD⟩, by omega⟩⟩
      rw [rd_sI (by omega), mm_gI_ne (by omega)]
      exact h1.2.1
    · rw [if_neg q2, if_neg q2, c_refuse (by omega), mm_cI_ok, mm_bz0]
      exact ⟨_, _, rd_FS_t fS (rd_FS_f S1 2), rd_FT_t fT (rd_FT_t (rd_FT_w T1 2) (rd_FT_A _ _)), rfl, Or.inr ⟨rfl, rd_X_A (rd_wX ⟨_, h1.2.2.1, h1.2.2.2.1⟩ h1.1 (by omega) (by omega)) _⟩⟩
  · rw [if_neg q, c_refuse (by omega), mm_cI_ok, mm_bz0, m_readNumber (by omega) h1.1.2.1.1 h1.1.2.1.2 (by omega), if_pos h1.1.2.2.1, if_neg (by rw [h1.1.2.2.2.2.2.2.2.1]; exact q), mm_cI_ok]
    simp (disch := omega) only [mm_ptM]
    exact ⟨_, _, rd_FS_t fS (rd_FS_f S1 1), rd_FT_t fT (rd_FT_t (rd_FT_w T1 1) (rd_FT_A _ _)), rfl, Or.inr ⟨rfl, rd_X_A (rd_wX ⟨_, h1.2.2.1, h1.2.2.2.1⟩ h1.1 (by omega) (by omega)) _⟩⟩
theorem rd_br3 (a b c : Bool) (X Y Z W : mm_R) : mm_br (mm_i (if a = true then 0 else if b = true then 0 + 1 else if c = true then 0 + 1 + 1 else -1) = mm_i 0) X (mm_br (mm_i (if a = true then 0 else if b = true then 0 + 1 else if c = true then 0 + 1 + 1 else -1) = mm_i 1) Y (mm_br (mm_i (if a = true then 0 else if b = true then 0 + 1 else if c = true then 0 + 1 + 1 else -1) = mm_i 2) Z W)) = if a = true then X else if b = true then Y else if c = true then Z else W := by
  cases a <;> cases b <;> cases c <;> (rw [mm_br_eq (by decide) (by decide) (by decide) (by decide), mm_br_eq (by decide) (by decide) (by decide) (by decide), mm_br_eq (by decide) (by decide) (by decide) (by decide)]; rfl)
/-- a line without its end -/
theorem rd_line (hE : pp_OE E B) (h : rd_G S T) (hd : 10 ≤ d) (hd' : 10 ≤ d') : ∃ S' T', rd_FS S S' ∧ rd_FT T T' ∧ (∃ n, 90000 ≤ n ∧ mm_ev E d' 247 [.ref (mm_ad B 101)] (mm_hp B T c') = mm_r247_69 E (mm_ev E (d' - 1)) n (mm_ad B 101) (mm_hp B T' c')) ∧ ((mm_ev E d 80 [.ref (mm_ad B 96)] (mm_hp B S c) = mm_oI 1 (mm_hp B S' c) ∧ rd_G S' T' ∧ S.I 1 3 ≤ S'.I 1 3) ∨ (mm_ev E d 80 [.ref (mm_ad B 96)] (mm_hp B S c) = mm_oI 0 (mm_hp B S' c) ∧ rd_X S' T')) := by
  obtain ⟨e, rfl⟩ : ∃ e, d = e + 1 := ⟨d - 1, by omega⟩
  obtain ⟨F, hF1, hc⟩ := mm_w80 E e B S c
  obtain ⟨e', rfl⟩ : ∃ e', d' = e' + 1 := ⟨d' - 1, by omega⟩
  obtain ⟨G, hG1, hm⟩ := mm_w247 E e' B T c'
  have k := h.1.1
  have am : mm_ev E e 98 [.ref (mm_ad B 1), .ref (E.2.2.1 1)] (mm_hp B S c) = mm_oI (if rd_is S (pp_tx 25) = true then 0 else if rd_is S (pp_tx 29) = true then 0 + 1 else if rd_is S (pp_tx 30) = true then 0 + 1 + 1 else -1) (mm_hp B S c) := by
    obtain ⟨k1, k2, k3, k4, k5, k6, k7, k8⟩ := k
    rw [c_among hE (by omega) (by omega) k1 k2 k3 k4 k5 ⟨k6, k7⟩]
    unfold rd_is
    by_cases q : S.I 1 5 = 1
    · rw [if_pos q, rd_tx1, pp_am_w _ _ _ _ (rd_t32 25 (by omega) (by omega)), pp_am_w _ _ _ _ (rd_t32 29 (by omega) (by omega)), pp_am_w _ _ _ _ (rd_t32 30 (by omega) (by omega)), decide_eq_true q]
      simp only [Bool.true_and]
      rfl
    · rw [if_neg q, decide_eq_false q]
      simp only [Bool.false_and]
      rfl
  rw [hc, hm, show e' + 1 - 1 = e' from rfl, mm_e80_0, mm_e247_0]
  simp (disch := omega) only [mm_ptG]
  rw [am, mm_cI_ok, rd_br3, rd_isW hE h.1 (by omega) (by omega), mm_cI_ok, mm_br_b1]
  by_cases q1 : rd_is S (pp_tx 25) = true
  · rw [if_pos q1, if_pos q1]
    obtain ⟨S', T', f1, f2, f3, f4⟩ := rd_stage (c := c) (c' := c') hE h (d := e) (d' := e') (by omega) (by omega)
    rw [f3, mm_cV_ok]
    refine ⟨S', T', f1, f2, ⟨_, by omega, rfl⟩, ?_⟩
    rcases f4 with ⟨g1, g2, g3⟩ | ⟨g1, g2⟩
    · rw [g1, mm_cI_ok, mm_bz1]; exact Or.inl ⟨rfl, g2, g3⟩
    · rw [g1, mm_cI_ok, mm_bz0]; exact Or.inr ⟨rfl, g2⟩
  · rw [if_neg q1, if_neg q1, rd_isW hE h.1 (by omega) (by omega), mm_cI_ok, mm_br_b1]
    by_cases q2 : rd_is S (pp_tx 29) = true
    · rw [if_pos q2, if_pos q2]
      obtain ⟨S', T', f1, f2, f3, f4⟩ := rd_from (c := c) (c' := c') hE h (d := e) (d' := e') (by omega) (by omega)
      rw [f3, mm_cV_ok]
      refine ⟨S', T', f1, f2, ⟨_, by omega, rfl⟩, ?_⟩
      rcases f4 with ⟨g1, g2, g3⟩ | ⟨g1, g2⟩
      · rw [g1, mm_cI_ok, mm_bz1]; exact Or.inl ⟨rfl, g2, g3⟩
      · rw [g1, mm_cI_ok, mm_bz0]; exact Or.inr ⟨rfl, g2⟩
    · rw [if_neg q2, if_neg q2, rd_isW hE h.1 (by omega) (by omega), mm_cI_ok, mm_br_b1]
      by_cases q3 : rd_is S (pp_tx 30) = true
      · rw [if_pos q3, if_pos q3]
        obtain ⟨S', T', f1, f2, f3, f4⟩ := rd_z (E := E) (B := B) (e := e) (e' := e') (c := c) (c' := c') h (by omega) (by omega) (fun h_12 => mm_r247_69 E (mm_ev E e') (G + 99) (mm_ad B 101) h_12)
        rw [f3]
        refine ⟨S', T', f1, f2, ⟨_, by omega, rfl⟩, ?_⟩
        rcases f4 with ⟨g1, g2, g3⟩ | ⟨g1, g2⟩
        · rw [g1, mm_cI_ok, mm_bz1]; exact Or.inl ⟨rfl, g2, g3⟩
        · rw [g1, mm_cI_ok, mm_bz0]; exact Or.inr ⟨rfl, g2⟩
      · rw [if_neg q3, if_neg q3, c_refuse (by omega), mm_cI_ok, mm_bz0, rd_wrg h.1.2.1 h.1.2.2.1 (by omega), mm_cV_ok]
        exact ⟨_, _, rd_FS_f S 1, rd_FT_w T 1, ⟨_, by omega, rfl⟩, Or.inr ⟨rfl, rd_wX ⟨_, h.2.2.1, h.2.2.2.1⟩ h.1 (by omega) (by omega)⟩⟩
end
