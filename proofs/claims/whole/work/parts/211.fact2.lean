/-! ASK: a fact, read by both -/
theorem aq_n01 {v : Int32} (h : v = mm_i 0 ∨ v = mm_i 1) : mm_i 1 - v = mm_i 0 ∨ mm_i 1 - v = mm_i 1 := by
  rcases h with r | r
  · rw [r]; exact Or.inr (by decide)
  · rw [r]; exact Or.inl (by decide)
theorem aq_is1 {S : mm_S} {w : List Int} (h : rd_is S w = true) : S.I 1 5 = 1 := by
  unfold rd_is at h
  rw [Bool.and_eq_true] at h
  exact of_decide_eq_true h.1
section
variable {E : mm_E} {d d' B : Nat} {S T : mm_S} {c c' : mm_N} {k s p : Int} {W : Int → Int} {T0 : mm_S}
theorem aq_skip {i : Nat} {w : List Int} (hE : pp_OE E B) (hd : 3 ≤ d) (hi : i < 56) (h : pp_KT S) (hw : pp_tx i = w ++ [32]) (h32 : ∀ x ∈ w, x ≠ 32) : mm_ev E d 97 [.ref (mm_ad B 1), .ref (E.2.2.1 i)] (mm_hp B S c) = if rd_is S w = true then mm_oI 1 (mm_hp B (rd_s S) c) else mm_oI 0 (mm_hp B S c) := c_skipWord hE hd hi h hw h32
theorem aq_fact1 (hE : pp_OE E B) (hp : 0 ≤ p ∧ p ≤ 6) (hd : 8 ≤ d) (hd' : 10 ≤ d') (hA : T.A = T0.A) (h : aq_G S T k s p) (SUM : ∀ S1 T1 : mm_S, T1.A = T0.A → aq_G S1 T1 k s p → aq_r E B c c' k s p W (30 + 2 * p) S1 T1 (mm_ev E (d - 1) 66 [.ref (mm_ad B 97), .int (mm_i p)] (mm_hp B S1 c)) (mm_ev E (d' - 1) 256 [.ref (mm_ad B 101)] (mm_hp B T1 c'))) (FACT : p < 6 → ∀ S1 T1 : mm_S, T1.A = T0.A → aq_G S1 T1 k s (p + 1) → aq_t E B c c' k s (p + 1) W (3 * (p + 1) + 2) S1 T1 (mm_ev E (d - 1) 65 [.ref (mm_ad B 97), .int (mm_i (p + 1))] (mm_hp B S1 c)) (mm_ev E (d' - 1) 257 [.ref (mm_ad B 101)] (mm_hp B T1 c'))) (TEST : p < 6 → ∀ S1 T1 : mm_S, T1.A = T0.A → aq_G S1 T1 k s (p + 1) → aq_t E B c c' k s (p + 1) W (3 * (p + 1)) S1 T1 (mm_ev E (d - 1) 64 [.ref (mm_ad B 97), .int (mm_i (p + 1))] (mm_hp B S1 c)) (mm_ev E (d' - 1) 259 [.ref (mm_ad B 101)] (mm_hp B T1 c'))) : aq_t E B c c' k s p W (3 * p + 2) S T (mm_ev E d 65 [.ref (mm_ad B 97), .int (mm_i p)] (mm_hp B S c)) (mm_ev E d' 257 [.ref (mm_ad B 101)] (mm_hp B T c')) := by
  obtain ⟨e, rfl⟩ : ∃ e, d = e + 1 := ⟨d - 1, by omega⟩
  obtain ⟨e', rfl⟩ : ∃ e', d' = e' + 1 := ⟨d' - 1, by omega⟩
  rw [show e + 1 - 1 = e from rfl, show e' + 1 - 1 = e' from rfl] at SUM
  rw [show e + 1 - 1 = e from rfl, show e' + 1 - 1 = e' from rfl] at FACT
  rw [show e + 1 - 1 = e from rfl, show e' + 1 - 1 = e' from rfl] at TEST
  obtain ⟨F, hF, hc⟩ := mm_w65 E e B S c (mm_i p)
  obtain ⟨G, hG', hm⟩ := mm_w257 E e' B T c'
  have hT := h.1
  obtain ⟨k1, k2, k3, k4, k5, k6, k7, k8⟩ := hT.1
  have h97 := h.2.2.2.2.2.2.1
  have h98 := h.2.2.2.2.2.2.2
  have n2 := h.2.2.2.2.2.1
  have mN : ∀ (U : mm_S) (v : Int32), (v = mm_i 0 ∨ v = mm_i 1) → (mm_gI (mm_hp B U c') (mm_ad B 101) 9 35 fun v_18 => mm_pF (mm_hp B U c') (mm_ad B 101) 9 35 (.int (v_18 - (mm_i 1))) fun h_19 => (mm_br (v = (mm_i 0)) ((mm_bz (mm_i 1) (some (.inl (some (.int (mm_i 1))), h_19)))) ((mm_bz (mm_i 0) (some (.inl (some (.int (mm_i 0))), h_19)))))) = some (.inl (some (.int (mm_i 1 - v))), mm_hp B (U.sI 101 35 (U.I 101 35 - 1)) c') := fun U v hv => by
    simp (disch := omega) only [mm_ptM, mm_hm]
    rcases hv with r | r
    · rw [r, mm_br_t rfl, mm_bz1, show mm_i 1 - mm_i 0 = mm_i 1 by decide]
    · rw [r, mm_br_eq (by omega) (by omega) (by omega) (by omega), if_neg (by omega), mm_bz0, show mm_i 1 - mm_i 1 = mm_i 0 by decide]
  have m63 : ∀ (U : mm_S) (v : Int32) (n : Nat), (v = mm_i 0 ∨ v = mm_i 1) → mm_r257_63 E (mm_ev E e') (n + 1) (mm_ad B 101) v none none (mm_hp B U c') = some (.inl (some (.int v)), mm_hp B (U.sI 101 35 (U.I 101 35 - 1)) c') := fun U v n hv => by
    rw [mm_e257_63]
    simp (disch := omega) only [mm_ptM, mm_hm]
    rw [aq_bz hv]
  rw [hc, hm, mm_e65_0, mm_e257_0]
  simp (disch := omega) only [mm_ptQ]
  rw [c_amongN hE hT.1 (by omega), mm_cI_ok, rd_isW hE hT (by omega) (by omega), mm_cI_ok, mm_br_b1]
  by_cases q : rd_is S (pp_tx 36) = true
  · -- not
    have q1 := aq_is1 q
    have st := hT.2.2.2.2.2.2.2.2 (by omega)
    rw [if_pos q, if_pos q, mm_br_t rfl, mm_e65_17, mm_br_eq (by omega) (by omega) (by omega) (by omega), if_neg (by omega), mm_e65_34, m_goes h hp (by omega), mm_cV_ok, mm_br_lt (by omega) (by omega) (by omega) (by omega)]
    by_cases q6 : p < 6
    · have hG := aq_G_s (aq_G_o (q := p + 1) h)
      rw [if_pos q6, if_pos q6]
      simp (disch := omega) only [mm_ptQ]
      rw [rd_adv hT.1 (by omega), mm_cV_ok, mm_br_eq (by omega) (by omega) (by omega) (by omega), if_neg (by omega)]
      simp (disch := omega) only [mm_hm]
      obtain ⟨S1, T1, v, f1, f2, f3, fv, f4⟩ := FACT q6 (rd_s S) (rd_m (T.sI 101 35 (p + 1))) hA hG.1
      have fS := aq_FS_t (aq_FS_s S) f1
      have fT := aq_FT_t (aq_FT_o T (p + 1)) (aq_FT_t (aq_FT_m _) f2)
      have hgp := hG.2.1
      have e97 := hG.2.2
      rw [f3, mm_cI_ok, mN T1 v fv]
      rcases f4 with ⟨g1, g2, g3, g4, g5⟩ | ⟨g1, g2⟩
      · have y7 := g2.2.2.2.2.2.2.1
        have y8 := g2.2.2.2.2.2.1
        have yk := g2.1.1.2.2.2
        have m13 : (aq_mk S1 36).I 1 3 = S1.I 1 3 := aq_mkI (by omega)
        have m4 := aq_mk4 S1 36
        rw [g1, mm_cI_ok, mm_br_eq (by omega) (by omega) (by omega) (by omega), if_neg (by omega), c_mark (by omega) 36 y7 (by omega), mm_cI_ok, mm_br_eq (by omega) (by omega) (by omega) (by omega), if_neg (by omega), mm_bz1]
        refine ⟨aq_mk S1 36, T1.sI 101 35 (T1.I 101 35 - 1), mm_i 1 - v, aq_FS_t fS (aq_FS_mk S1 36), aq_FT_t fT (aq_FT_o T1 _), rfl, aq_n01 fv, Or.inl ⟨rfl, ?_, by omega, by omega, fun hk => ?_⟩⟩
        · rw [g2.2.2.2.2.1, show p + 1 - 1 = p by omega]
          exact aq_G_o (aq_G_mk (v := 36) g2 (by omega))
        · have z := g5 hk
          rw [e97] at z
          rw [m4]
          exact aq_C_not (aq_C_t (aq_C_c z (fun i i0 i1 => by rw [aq_mkA, mm_u_ne (by omega)])) (by omega)) (by rw [aq_mkA, mm_u_eq]) (by omega)
      · rw [g1, mm_cI_ok, mm_br_t rfl, mm_bz0]
        exact ⟨S1, _, _, fS, aq_FT_t fT (aq_FT_o T1 _), rfl, aq_n01 fv, Or.inr ⟨rfl, aq_X_o g2 _⟩⟩
    · have x := aq_X_o (aq_wX hT (v := 3) (by omega) (by omega)) 7
      have b := aq_X_0 x
      rw [if_neg q6, if_neg q6, c_refuseQ (by omega), mm_cI_ok, mm_bz0, m_257b hE b.1 b.2 (by omega), mm_cI_ok, mN _ _ (Or.inl rfl)]
      exact ⟨_, _, _, aq_FS_f S 3, aq_FT_t (aq_FT_w T 3) (aq_FT_t (aq_FT_o _ 7) (aq_FT_o _ _)), rfl, aq_n01 (Or.inl rfl), Or.inr ⟨rfl, aq_X_o x _⟩⟩
  · rw [if_neg q, if_neg q, mm_br_eq (by omega) (by omega) (by omega) (by omega), if_neg (by omega), mm_e65_17, mm_br_t rfl]
    simp (disch := omega) only [mm_ptQ]
    rw [rd_isS hT.1 (by omega) (by omega), mm_cI_ok, mm_br_b1, rd_isSM hT (by omega) (by omega), mm_cI_ok, mm_br_b1]
    by_cases q3 : rd_sg S 123 = true
    · -- in braces
      have s3 := aq_sg3 q3
      have st := hT.2.2.2.2.2.2.2.2 (by omega)
      rw [if_pos q3, if_pos q3, mm_e65_34, m_goes h hp (by omega), mm_cV_ok, mm_br_lt (by omega) (by omega) (by omega) (by omega)]
      by_cases q6 : p < 6
      · have hG := aq_G_s (aq_G_o (q := p + 1) h)
        rw [if_pos q6, if_pos q6]
        simp (disch := omega) only [mm_ptQ]
        rw [rd_adv hT.1 (by omega), mm_cV_ok, mm_br_t trivial]
        simp (disch := omega) only [mm_hm]
        obtain ⟨S1, T1, v, f1, f2, f3, fv, f4⟩ := TEST q6 (rd_s S) (rd_m (T.sI 101 35 (p + 1))) hA hG.1
        have fS := aq_FS_t (aq_FS_s S) f1
        have fT := aq_FT_t (aq_FT_o T (p + 1)) (aq_FT_t (aq_FT_m _) f2)
        have hgp := hG.2.1
        have e97 := hG.2.2
        rw [f3, mm_cI_ok]
        rcases f4 with ⟨g1, g2, g3, g4, g5⟩ | ⟨g1, g2⟩
        · rw [g1, mm_cI_ok, mm_br_eq (by omega) (by omega) (by omega) (by omega), if_neg (by omega)]
          simp (disch := omega) only [mm_ptQ]
          rw [rd_isS g2.1.1 (by omega) (by omega), mm_cI_ok, mm_br_b1, rd_must g2.1 (by omega) (by omega), mm_cV_ok]
          by_cases q4 : rd_sg S1 125 = true
          · have hS := aq_G_s g2
            have s4 := g2.1.2.2.2.2.2.2.2.2 (by rw [aq_sg3 q4]; omega)
            have hs2 := hS.2.1
            have hs3 := hS.2.2
            rw [if_pos q4, if_pos q4, mm_e65_112]
            simp (disch := omega) only [mm_ptQ]
            rw [rd_adv g2.1.1 (by omega), mm_cV_ok, mm_bz1, m63 (rd_m T1) v _ fv]
            refine ⟨rd_s S1, (rd_m T1).sI 101 35 ((rd_m T1).I 101 35 - 1), v, aq_FS_t fS (aq_FS_s S1), aq_FT_t fT (aq_FT_t (aq_FT_m T1) (aq_FT_o _ _)), rfl, fv, Or.inl ⟨rfl, ?_, by omega, by omega, fun hk => ?_⟩⟩
            · rw [rd_mI (by omega), g2.2.2.2.2.1, show p + 1 - 1 = p by omega]
              exact aq_G_o hS.1
            · have z := g5 hk
              rw [e97] at z
              rw [hs3]
              exact aq_C_t z (by omega)
          · rw [if_neg q4, if_neg q4, c_refuseQ (by omega), mm_cI_ok, mm_bz0, m63 _ v _ fv]
            exact ⟨_, _, _, aq_FS_t fS (aq_FS_f S1 1), aq_FT_t fT (aq_FT_t (aq_FT_w T1 1) (aq_FT_o _ _)), rfl, fv, Or.inr ⟨rfl, aq_X_o (aq_wX g2.1 (by omega) (by omega)) _⟩⟩
        · have b := aq_X_0 g2
          rw [g1, mm_cI_ok, mm_br_t rfl, mm_bz0, rd_mustb b.1 b.2 (by omega) (by omega), mm_cV_ok, m63 T1 v _ fv]
          exact ⟨S1, _, _, fS, aq_FT_t fT (aq_FT_o T1 _), rfl, fv, Or.inr ⟨rfl, aq_X_o g2 _⟩⟩
      · have x := aq_X_o (aq_wX hT (v := 3) (by omega) (by omega)) 7
        have b := aq_X_0 x
        rw [if_neg q6, if_neg q6, c_refuseQ (by omega), mm_cI_ok, mm_bz0, m_259b hE b.1 b.2 (by omega), mm_cI_ok, rd_mustb b.1 b.2 (by omega) (by omega), mm_cV_ok, m63 _ _ _ (Or.inl rfl)]
        exact ⟨_, _, _, aq_FS_f S 3, aq_FT_t (aq_FT_w T 3) (aq_FT_t (aq_FT_o _ 7) (aq_FT_o _ _)), rfl, Or.inl rfl, Or.inr ⟨rfl, aq_X_o x _⟩⟩
    · -- two sums compared
      obtain ⟨S1, T1, v, f1, f2, f3, f4⟩ := SUM S T hA h
      rw [if_neg q3, if_neg q3, f3, mm_cI_ok]
      have hA1 : T1.A = T0.A := by rw [f2.2.1]; exact hA
      rcases f4 with ⟨g1, g2, g3, g4, g5⟩ | ⟨g1, g2⟩
      · have fin : ∀ (C M : mm_R), (∃ (S' T' : mm_S) (v' : Int32), aq_FS S1 S' ∧ aq_FT T1 T' ∧ M = some (.inl (some (.int v')), mm_hp B T' c') ∧ (v' = mm_i 0 ∨ v' = mm_i 1) ∧ ((C = mm_oI 1 (mm_hp B S' c) ∧ aq_G S' T' k s p ∧ S'.I 97 4 - S.I 97 4 ≤ S'.I 1 3 - S.I 1 3 ∧ S.I 1 3 < S'.I 1 3 ∧ (k = 1 → aq_C E B s W (S'.A 98) (S.I 97 4) (S'.I 97 4) v' (3 * p + 2))) ∨ (C = mm_oI 0 (mm_hp B S' c) ∧ aq_X S' T'))) → aq_t E B c c' k s p W (3 * p + 2) S T C M := fun C M ⟨S', T', v', u1, u2, u3⟩ => ⟨S', T', v', aq_FS_t f1 u1, aq_FT_t f2 u2, u3⟩
        rw [g1, mm_cI_ok, mm_br_eq (by omega) (by omega) (by omega) (by omega), if_neg (by omega)]
        simp (disch := omega) only [mm_ptQ]
        rw [rd_isS g2.1.1 (by omega) (by omega), mm_cI_ok, mm_br_b1, rd_isSM g2.1 (by omega) (by omega), mm_cI_ok, mm_br_b1]
        by_cases r1 : rd_sg S1 60 = true
        · rw [if_pos r1, if_pos r1]
          exact fin _ _ (aq_cmp (op := 33) (b := -1) (S0 := S) (T0 := T0) (Or.inl ⟨rfl, rfl⟩) hp (by omega) (by omega) SUM hA1 g2 (aq_sg3 r1) g3 g4 h98 g5)
        · rw [if_neg r1, if_neg r1, mm_e65_148]
          simp (disch := omega) only [mm_ptQ]
          rw [rd_isS g2.1.1 (by omega) (by omega), mm_cI_ok, mm_br_b1, rd_isSM g2.1 (by omega) (by omega), mm_cI_ok, mm_br_b1]
          by_cases r2 : rd_sg S1 61 = true
          · rw [if_pos r2, if_pos r2]
            exact fin _ _ (aq_cmp (op := 34) (b := 0) (S0 := S) (T0 := T0) (Or.inr (Or.inl ⟨rfl, rfl⟩)) hp (by omega) (by omega) SUM hA1 g2 (aq_sg3 r2) g3 g4 h98 g5)
          · rw [if_neg r2, if_neg r2, mm_e65_165, mm_e257_106]
            simp (disch := omega) only [mm_ptQ]
            rw [rd_isS g2.1.1 (by omega) (by omega), mm_cI_ok, mm_br_b1, rd_isSM g2.1 (by omega) (by omega), mm_cI_ok, mm_br_b1]
            by_cases r3 : rd_sg S1 62 = true
            · rw [if_pos r3, if_pos r3]
              exact fin _ _ (aq_cmp (op := 35) (b := 1) (S0 := S) (T0 := T0) (Or.inr (Or.inr ⟨rfl, rfl⟩)) hp (by omega) (by omega) SUM hA1 g2 (aq_sg3 r3) g3 g4 h98 g5)
            · have x := aq_wX g2.1 (v := 1) (by omega) (by omega)
              have b := aq_X_0 x
              rw [if_neg r3, if_neg r3, mm_e65_183, mm_br_t rfl, c_refuseQ (by omega), mm_cI_ok, mm_bz0, mm_e257_121, mm_br_t rfl, rd_wrg g2.1.2.1 g2.1.2.2.1 (by omega), mm_cV_ok, m_257x b.1 b.2 (by omega)]
              exact ⟨_, _, _, aq_FS_t f1 (aq_FS_f S1 1), aq_FT_t f2 (aq_FT_w T1 1), rfl, aq_j01 (by omega), Or.inr ⟨rfl, x⟩⟩
      · have b := aq_X_0 g2
        rw [g1, mm_cI_ok, mm_br_t rfl, mm_bz0, rd_isSMb b.1 b.2 (by omega) (by omega), mm_cI_ok, mm_br_t rfl, rd_isSMb b.1 b.2 (by omega) (by omega), mm_cI_ok, mm_br_t rfl, m_257y b.1 b.2 (by omega)]
        exact ⟨S1, T1, _, f1, f2, rfl, aq_j01 (by omega), Or.inr ⟨rfl, g2⟩⟩
end
