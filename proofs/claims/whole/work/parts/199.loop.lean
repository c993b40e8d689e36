/-! READING: all lines -/
section
variable {E : mm_E} {d e e' B : Nat} {c c' : mm_N}
/-- the class behind its last line -/
noncomputable def rd_kc (E : mm_E) (e B : Nat) (H : mm_H) : mm_R := mm_cV [] (mm_ev E e 43 [.ref (mm_ad B 14)] H) (fun h_2 => mm_gI h_2 (mm_ad B 96) 6 2 fun v_3 => some (.inl (some (.int v_3)), h_2))
theorem rd_exit {S T : mm_S} {n : Nat} {i : Int} {x1 : Int32} (h : rd_X S T) (i0 : 0 ≤ i) (i1 : i ≤ 1000) : mm_r79_22 E (mm_ev E e) (n + 1) (mm_ad B 96) x1 (mm_i i) (mm_hp B S c) = rd_kc E e B (mm_hp B S c) := by
  obtain ⟨⟨v, ⟨h1, h2, h3, h4⟩, h5⟩, h6⟩ := h
  rw [mm_e79_22, mm_br_le (by omega) (by omega) (by omega) (by omega)]
  by_cases q : 400 ≤ i
  · rw [if_pos q]
    simp (disch := omega) only [mm_ptG]
    rfl
  · rw [if_neg q]
    simp (disch := omega) only [mm_ptG, mm_br_eq]
    rw [if_neg (by omega)]
    rfl
theorem rd_loop (hE : pp_OE E B) (he : 10 ≤ e) (he' : 10 ≤ e') {x1 x : Int32} {o2 o3 : Option Value} : ∀ (j : Nat) (S T : mm_S) (i : Int) (n m : Nat), rd_G S T → S.I 1 2 - S.I 1 3 ≤ j → 0 ≤ i → i ≤ S.I 1 3 → j + 1 < n → j < m → ∃ S' T' m', rd_FS S S' ∧ rd_FT T T' ∧ m ≤ m' + j ∧ mm_r79_22 E (mm_ev E e) n (mm_ad B 96) x1 (mm_i i) (mm_hp B S c) = rd_kc E e B (mm_hp B S' c) ∧ mm_r248_35 E (mm_ev E e') m (mm_ad B 101) x o2 o3 (mm_hp B T c') = mm_r248_35 E (mm_ev E e') m' (mm_ad B 101) x o2 o3 (mm_hp B T' c') ∧ ((rd_G S' T' ∧ S'.I 1 5 = 0) ∨ rd_X S' T') := by
  intro j
  induction j with
  | zero =>
    intro S T i n m h hj i0 i1 hn hm
    obtain ⟨n, rfl⟩ : ∃ q, n = q + 1 := ⟨n - 1, by omega⟩
    obtain ⟨k1, k2, k3, k4, k5, k6, k7, k8⟩ := h.1.1
    have k9 := h.1.2.2.2.2.2.2.2.2
    have q : S.I 1 5 = 0 := by
      by_cases q : S.I 1 5 = 0
      · exact q
      · have := k9 q
        omega
    refine ⟨S, T, m, rd_FS_r S, rd_FT_r T, by omega, ?_, rfl, Or.inl ⟨h, q⟩⟩
    have hf := h.2.1
    rw [mm_e79_22, mm_br_le (by omega) (by omega) (by omega) (by omega)]
    by_cases q2 : 400 ≤ i
    · rw [if_pos q2]
      simp (disch := omega) only [mm_ptG]
      rfl
    · rw [if_neg q2]
      simp (disch := omega) only [mm_ptG]
      simp (disch := omega) only [mm_ptT, mm_br_eq]
      rw [if_pos hf, if_pos q]
      rfl
  | succ j ih =>
    intro S T i n m h hj i0 i1 hn hm
    obtain ⟨n, rfl⟩ : ∃ q, n = q + 2 := ⟨n - 2, by omega⟩
    obtain ⟨m, rfl⟩ : ∃ q, m = q + 1 := ⟨m - 1, by omega⟩
    obtain ⟨k1, k2, k3, k4, k5, k6, k7, k8⟩ := h.1.1
    have k9 := h.1.2.2.2.2.2.2.2.2
    have k29 := h.1.2.2.2.2.2.2.2.1
    have hf := h.2.1
    by_cases q : S.I 1 5 = 0
    · refine ⟨S, T, m + 1, rd_FS_r S, rd_FT_r T, by omega, ?_, rfl, Or.inl ⟨h, q⟩⟩
      rw [mm_e79_22, mm_br_le (by omega) (by omega) (by omega) (by omega)]
      by_cases q2 : 400 ≤ i
      · rw [if_pos q2]
        simp (disch := omega) only [mm_ptG]
        rfl
      · rw [if_neg q2]
        simp (disch := omega) only [mm_ptG]
        simp (disch := omega) only [mm_ptT, mm_br_eq]
        rw [if_pos hf, if_pos q]
        rfl
    · have k10 := k9 q
      obtain ⟨S1, T1, f1, f2, ⟨w, w0, f3⟩, f4⟩ := rd_line (c := c) (c' := c') hE h (d := e) (d' := e') he he'
      have i12 : S1.I 1 2 = S.I 1 2 := f1.1 1 2 (by omega) (by omega) (by omega)
      obtain ⟨w, rfl⟩ : ∃ v, w = v + 1 := ⟨w - 1, by omega⟩
      have step : ∀ T2, mm_ev E e' 247 [.ref (mm_ad B 101)] (mm_hp B T c') = mm_oV (mm_hp B T2 c') → mm_r248_35 E (mm_ev E e') (m + 1) (mm_ad B 101) x o2 o3 (mm_hp B T c') = mm_r248_35 E (mm_ev E e') m (mm_ad B 101) x o2 o3 (mm_hp B T2 c') := fun T2 h2 => by
        rw [mm_e248_35]
        simp (disch := omega) only [mm_ptM]
        rw [h.1.2.2.1, mm_br_t rfl, k29, mm_br_eq (by omega) (by omega) (by omega) (by omega), if_neg q, h2, mm_cV_ok]
      have cst : ∀ v H, mm_ev E e 80 [.ref (mm_ad B 96)] (mm_hp B S c) = mm_oI v H → mm_r79_22 E (mm_ev E e) (n + 2) (mm_ad B 96) x1 (mm_i i) (mm_hp B S c) = mm_br (mm_i v = mm_i 0) (mm_r79_22 E (mm_ev E e) (n + 1) (mm_ad B 96) x1 (mm_i (i + 1)) H) (mm_cI [] (mm_ev E e 81 [.ref (mm_ad B 96)] H) fun v_16 h_15 => (mm_br (v_16 = (mm_i 0)) (mm_r79_22 E (mm_ev E e) (n + 1) (mm_ad B 96) x1 (mm_i (i + 1)) h_15) (mm_gR h_15 (mm_ad B 96) 6 0 fun p_17 => mm_cV [] (mm_ev E e 95 [.ref p_17] h_15) fun h_18 => mm_r79_22 E (mm_ev E e) (n + 1) (mm_ad B 96) x1 (mm_i (i + 1)) h_18))) := fun v H h2 => by
        rw [mm_e79_22, mm_br_le (by omega) (by omega) (by omega) (by omega), if_neg (by omega)]
        simp (disch := omega) only [mm_ptG]
        simp (disch := omega) only [mm_ptT, mm_br_eq]
        rw [if_pos hf, if_neg q, h2, mm_cI_ok]
        simp (disch := omega) only [mm_hm]
      rcases f4 with ⟨g1, g2, g3⟩ | ⟨g1, g2⟩
      · -- the end of the line
        have hmu := rd_must (E := E) (d := e' - 1) (B := B) (c := c') g2.1 (by omega) (x := 59) (by omega)
        have ends : mm_ev E e 81 [.ref (mm_ad B 96)] (mm_hp B S1 c) = if rd_sg S1 59 = true then mm_oI 1 (mm_hp B S1 c) else mm_oI 0 (mm_hp B (S1.sI 96 2 1) c) := by
          refine mm_v81 (by omega) (fun F e' hF he' => ?_)
          rw [mm_e81_0]
          simp (disch := omega) only [mm_ptG]
          rw [rd_isS g2.1.1 (by omega) (by omega), mm_cI_ok, mm_br_b1]
          by_cases q3 : rd_sg S1 59 = true
          · rw [if_pos q3, if_pos q3, mm_bz1]
          · rw [if_neg q3, if_neg q3, c_refuse (by omega), mm_cI_ok, mm_br_t rfl, mm_bz0]
        by_cases q3 : rd_sg S1 59 = true
        · rw [if_pos q3] at ends hmu
          have h2 := rd_G_s g2
          have p2 := (rd_next g2.1).2
          have k15 : S1.I 1 5 = 3 := by
            unfold rd_sg at q3
            rw [Bool.and_eq_true] at q3
            exact of_decide_eq_true q3.1
          have p3 := g2.1.2.2.2.2.2.2.2.2 (by omega)
          have j12 : (rd_s S1).I 1 2 = S.I 1 2 := by rw [rd_sI (by omega)]; exact i12
          obtain ⟨S', T', m', z1, z2, z3, z4, z5, z6⟩ := ih (rd_s S1) (rd_m T1) (i + 1) (n + 1) m h2 (by omega) (by omega) (by omega) (by omega) (by omega)
          refine ⟨S', T', m', rd_FS_t f1 (rd_FS_t (rd_FS_s S1) z1), rd_FT_t f2 (rd_FT_t (rd_FT_m T1) z2), by omega, ?_, ?_, z6⟩
          · rw [cst 1 _ g1, mm_br_eq (by omega) (by omega) (by omega) (by omega), if_neg (by omega), ends, mm_cI_ok, mm_br_eq (by omega) (by omega) (by omega) (by omega), if_neg (by omega)]
            simp (disch := omega) only [mm_ptG]
            rw [rd_adv g2.1.1 (by omega), mm_cV_ok, z4]
          · rw [step (rd_m T1) (by rw [f3, mm_e247_69, hmu, mm_cV_ok]), z5]
        · rw [if_neg q3] at ends hmu
          have x := rd_wX ⟨_, g2.2.2.1, g2.2.2.2.1⟩ g2.1 (v := 1) (by omega) (by omega)
          refine ⟨S1.sI 96 2 1, rd_w T1 1, m, rd_FS_t f1 (rd_FS_f S1 1), rd_FT_t f2 (rd_FT_w T1 1), by omega, ?_, ?_, Or.inr x⟩
          · rw [cst 1 _ g1, mm_br_eq (by omega) (by omega) (by omega) (by omega), if_neg (by omega), ends, mm_cI_ok, mm_br_t rfl, rd_exit x (by omega) (by omega)]
          · rw [step (rd_w T1 1) (by rw [f3, mm_e247_69, hmu, mm_cV_ok])]
      · have b := rd_X_0 g2
        refine ⟨S1, T1, m, f1, f2, by omega, ?_, ?_, Or.inr g2⟩
        · rw [cst 0 _ g1, mm_br_t rfl, rd_exit g2 (by omega) (by omega)]
        · rw [step T1 (by rw [f3, mm_e247_69, rd_mustb b.1 b.2 (by omega) (by omega), mm_cV_ok])]
end
