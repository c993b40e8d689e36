/-! READING: supplies, z, a line -/
theorem rd_D_j {S U : mm_S} {f : Int → Int} {i j : Int} (h : rd_D S f) (e10 : U.I 14 10 = S.I 14 10) (e11 : U.I 14 11 = S.I 14 11) (e1 : U.A 15 = S.A 15) (e2 : U.A 16 = S.A 16) (i1 : 0 ≤ i) (i2 : i < f 0) (j1 : 0 ≤ j) (j2 : j < f 0) (hc : ¬ pp_cn (pp_Wr f) i j) (e3 : U.A 17 = mm_u (S.A 17) j (mm_ior (S.A 17 j) (mm_pw i))) (e4 : U.A 18 = mm_u (S.A 18) i (mm_ior (S.A 18 i) (mm_pw j))) : rd_D U (iv_jn f i j) := by
  obtain ⟨h1, h2, h3, h4, h5⟩ := h
  have n := h1.1
  have m := h1.2.2.1
  have g0 : iv_jn f i j 0 = f 0 := iv_jn_ne (by omega) (by omega) (by omega)
  refine ⟨iv_jn_RO h1 i1 i2 j1 j2 hc, pp_EQ_join (S := S) (T := U) (a := 14) h1 h2 e10 e11 e1 e2 i1 (by omega) j1 (by omega) e3 e4 g0 (iv_jn_ne (by omega) (by omega) (by omega)) (iv_jn_aP (by omega)) (fun s w s0 s1 w0 w1 => iv_jn_ne (by omega) (by omega) (by omega)) (fun s w s0 s1 w0 w1 => iv_jn_ne (by omega) (by omega) (by omega)), fun t t0 t1 => ?_, by rw [e2]; exact h4, fun t t0 t1 => ?_⟩
  · rw [g0] at t1
    rw [iv_jn_ne (by omega) (by omega) (by omega)]
    exact h3 t t0 t1
  · show -1000 ≤ iv_jn f i j (87 + t) ∧ iv_jn f i j (87 + t) ≤ 1000
    rw [iv_jn_ne (by omega) (by omega) (by omega)]
    exact h5 t t0 t1
theorem rd_D_z {S U : mm_S} {f : Int → Int} {v : Int} (h : rd_D S f) (v0 : 0 ≤ v ∧ v ≤ 400) (e10 : U.I 14 10 = S.I 14 10) (e11 : U.I 14 11 = v) (e1 : U.A 15 = S.A 15) (e2 : U.A 16 = S.A 16) (e3 : U.A 17 = S.A 17) (e4 : U.A 18 = S.A 18) : rd_D U (mm_u f 1 v) := by
  obtain ⟨h1, h2, h3, h4, h5⟩ := h
  have n := h1.1
  have mm := h1.2.2.1
  have m : ∀ i : Int, i ≠ 1 → mm_u f 1 v i = f i := fun i hi => mm_u_ne hi
  refine ⟨pp_RO_same h1 (m 0 (by omega)) (by rw [mm_u_eq]; exact v0) (m 2 (by omega)) (fun l l0 l1 => ⟨m _ (by omega), m _ (by omega)⟩) (fun t t0 t1 => ?_), pp_EQ_z (S := S) (T := U) (a := 14) h2 e10 e11 e1 e2 e3 e4 (m 0 (by omega)) (mm_u_eq _ _ _) ⟨m 2 (by omega), fun l l0 l1 => ⟨m _ (by omega), m _ (by omega)⟩⟩ (fun s w s0 s1 w0 w1 => m _ (by omega)) (fun s w s0 s1 w0 w1 => m _ (by omega)), fun t t0 t1 => ?_, by rw [e2]; exact h4, fun t t0 t1 => ?_⟩
  · have q := h1.2.2.2.2.1 t t0 t1
    unfold pp_tR at q ⊢
    dsimp only at q ⊢
    rw [m _ (by omega), m _ (by omega), m _ (by omega), m _ (by omega), m _ (by omega), m _ (by omega), m _ (by omega)]
    exact q
  · rw [m 0 (by omega)] at t1
    rw [m _ (by omega)]
    exact h3 t t0 t1
  · show -1000 ≤ mm_u f 1 v (87 + t) ∧ mm_u f 1 v (87 + t) ≤ 1000
    rw [m _ (by omega)]
    exact h5 t t0 t1
theorem rd_G_s {S T : mm_S} (h : rd_G S T) : rd_G (rd_s S) (rd_m T) := by
  obtain ⟨h1, h2, h4⟩ := h
  exact ⟨(rd_next h1).1, by rw [rd_sI (by omega)]; exact h2, rd_D_c (fun k _ => rd_sI (by omega)) (fun x _ _ => rfl) h4⟩
section
variable {E : mm_E} {d d' e B : Nat} {S T : mm_S} {c c' : mm_N}
/-- a name that must be told already -/
theorem rd_known (hE : pp_OE E B) (h : rd_G S T) (hd : 4 ≤ d) (hd' : 4 ≤ d') (c c' : mm_N) : (mm_ev E d 87 [.ref (mm_ad B 96)] (mm_hp B S c) = mm_oI 1 (mm_hp B S c) ∧ (0 ≤ rd_fN S ∧ rd_fN S < S.I 14 10) ∧ mm_ev E d 89 [.ref (mm_ad B 96)] (mm_hp B S c) = mm_oI (rd_fN S) (mm_hp B S c) ∧ mm_ev E d' 244 [.ref (mm_ad B 101)] (mm_hp B T c') = mm_oI (rd_fN S) (mm_hp B T c')) ∨ (∃ v x : Int, (1 ≤ v ∧ v ≤ 5) ∧ mm_ev E d 87 [.ref (mm_ad B 96)] (mm_hp B S c) = mm_oI 0 (mm_hp B (S.sI 96 2 v) c) ∧ mm_ev E d' 244 [.ref (mm_ad B 101)] (mm_hp B T c') = mm_oI x (mm_hp B (rd_w T v) c')) := by
  obtain ⟨h1, hF, D1⟩ := h
  have n := D1.1.1
  have e1 : S.I 14 10 = T.A 103 0 := D1.2.1.1
  have fr := rd_fN_r (S := S) (by omega)
  have w30 : (rd_w T 1).I 101 32 = 1 := by unfold rd_w; rw [mm_gI_ne (by omega)]; exact mm_gs.1 _ _ _ _
  by_cases qn : rd_nB S = true
  · by_cases qf : rd_fN S = -1
    · refine Or.inr ⟨3, -1, by omega, mm_v87 (by omega) (fun F e hF he => ?_), mm_v244 (by omega) (fun F e hF he => ?_)⟩
      · rw [mm_e87_0, rd_isN hE h1.1 (by omega), mm_cI_ok, mm_br_b1, if_pos qn, c_findName h1.1 D1.2.2.2.1 (by omega) (by omega), mm_cI_ok, qf, mm_br_t rfl, c_refuse (by omega), mm_cI_ok, mm_br_t rfl, mm_bz0]
      · rw [mm_e244_0, rd_isNM hE h1 (by omega), mm_cI_ok, mm_br_b1, if_pos qn]
        simp (disch := omega) only [mm_ptM]
        rw [h1.2.2.1, mm_br_t rfl, m_named h1 (fun i i0 i1 => D1.2.2.2.2 i i0 i1) (by omega) (by omega) e1 (fun s k s0 s1 k0 k1 => D1.2.1.2.2.2.2.2.1 s k s0 s1 k0 k1), mm_cI_ok, qf, mm_e244_27, mm_br_t rfl, rd_wrg h1.2.1 h1.2.2.1 (by omega), mm_cV_ok]
    · refine Or.inl ⟨mm_v87 (by omega) (fun F e hF he => ?_), by omega, c_findName h1.1 D1.2.2.2.1 (by omega) (by omega), mm_v244 (by omega) (fun F e hF he => ?_)⟩
      · rw [mm_e87_0, rd_isN hE h1.1 (by omega), mm_cI_ok, mm_br_b1, if_pos qn, c_findName h1.1 D1.2.2.2.1 (by omega) (by omega), mm_cI_ok, mm_br_eq (by omega) (by omega) (by omega) (by omega), if_neg qf, mm_bz1]
      · rw [mm_e244_0, rd_isNM hE h1 (by omega), mm_cI_ok, mm_br_b1, if_pos qn]
        simp (disch := omega) only [mm_ptM]
        rw [h1.2.2.1, mm_br_t rfl, m_named h1 (fun i i0 i1 => D1.2.2.2.2 i i0 i1) (by omega) (by omega) e1 (fun s k s0 s1 k0 k1 => D1.2.1.2.2.2.2.2.1 s k s0 s1 k0 k1), mm_cI_ok, mm_e244_27, mm_br_eq (by omega) (by omega) (by omega) (by omega), if_neg qf]
  · refine Or.inr ⟨1, 0, by omega, mm_v87 (by omega) (fun F e hF he => ?_), mm_v244 (by omega) (fun F e hF he => ?_)⟩
    · rw [mm_e87_0, rd_isN hE h1.1 (by omega), mm_cI_ok, mm_br_b1, if_neg qn, c_refuse (by omega), mm_cI_ok, mm_bz0]
    · rw [mm_e244_0, rd_isNM hE h1 (by omega), mm_cI_ok, mm_br_b1, if_neg qn, rd_wrg h1.2.1 h1.2.2.1 (by omega), mm_cV_ok]
      simp (disch := omega) only [mm_ptM]
      rw [w30, mm_br_eq (by omega) (by omega) (by omega) (by omega), if_neg (by omega), mm_e244_27, mm_br_eq (by omega) (by omega) (by omega) (by omega), if_neg (by omega)]
theorem rd_knownb (h : rd_M T) (hb : T.I 101 32 ≠ 0) (hd : 3 ≤ d) : mm_ev E d 244 [.ref (mm_ad B 101)] (mm_hp B T c) = mm_oI 0 (mm_hp B T c) := by
  obtain ⟨k1, k2, k3, k4, k5, k6, k7, k8, k9, k10, k11⟩ := h.1
  refine mm_v244 (by omega) (fun F e hF he => ?_)
  rw [mm_e244_0, rd_isNMb h hb (by omega), mm_cI_ok, mm_br_t rfl, rd_wrgb h hb (by omega), mm_cV_ok]
  simp (disch := omega) only [mm_ptM, mm_br_eq]
  rw [if_neg hb, mm_e244_27, mm_br_eq (by omega) (by omega) (by omega) (by omega), if_neg (by omega)]
theorem m_246b {n : Nat} {x1 x2 : Int32} (h : rd_M T) (hb : T.I 101 32 ≠ 0) : mm_r246_49 E (mm_ev E e) (n + 1) (mm_ad B 101) x1 x2 (mm_hp B T c) = mm_oV (mm_hp B T c) := by
  obtain ⟨k1, k2, k3, k4, k5, k6, k7, k8, k9, k10, k11⟩ := h.1
  rw [mm_e246_49]
  simp (disch := omega) only [mm_ptM, mm_br_eq]
  rw [if_neg hb]
theorem rd_from (hE : pp_OE E B) (h : rd_G S T) (hd : 8 ≤ d) (hd' : 8 ≤ d') : rd_ok B c c' S T (mm_ev E d 86 [.ref (mm_ad B 96)] (mm_hp B S c)) (mm_ev E d' 246 [.ref (mm_ad B 101)] (mm_hp B T c')) := by
  obtain ⟨e, rfl⟩ : ∃ e, d = e + 1 := ⟨d - 1, by omega⟩
  obtain ⟨F, hF1, hc⟩ := mm_w86 E e B S c
  obtain ⟨e', rfl⟩ : ∃ e', d' = e' + 1 := ⟨d' - 1, by omega⟩
  obtain ⟨G, hG1, hm⟩ := mm_w246 E e' B T c'
  rw [hc, hm, mm_e86_0, mm_e246_0]
  simp (disch := omega) only [mm_ptG]
  have h1 := rd_G_s h
  have p1 := rd_H_p h.1
  refine rd_ok_t (rd_FS_s S) (rd_FT_m T) p1 ?_
  rw [rd_adv h.1.1 (by omega), mm_cV_ok, rd_pas h.1.2.1 h.1.2.2.1 (by omega), mm_cV_ok]
  obtain ⟨S1, hS1⟩ : ∃ S1, S1 = rd_s S := ⟨_, rfl⟩
  obtain ⟨T1, hT1⟩ : ∃ T1, T1 = rd_m T := ⟨_, rfl⟩
  rw [← hS1, ← hT1] at h1 ⊢
  rcases rd_known (E := E) (d := e) (d' := e') (B := B) hE h1 (by omega) (by omega) c c' with ⟨z1, z2, z3, z4⟩ | ⟨v, x, v1, z1, z2⟩
  · rw [z1, mm_cI_ok, mm_br_eq (by omega) (by omega) (by omega) (by omega), if_neg (by omega), z3, mm_cI_ok, z4, mm_cI_ok]
    simp (disch := omega) only [mm_ptG]
    have h2 := rd_G_s h1
    have p2 := rd_H_p h1.1
    obtain ⟨a, ha⟩ : ∃ a, a = rd_fN S1 := ⟨_, rfl⟩
    rw [← ha] at z2 ⊢
    refine rd_ok_t (rd_FS_s S1) (rd_FT_m T1) p2 ?_
    rw [rd_adv h1.1.1 (by omega), mm_cV_ok, rd_pas h1.1.2.1 h1.1.2.2.1 (by omega), mm_cV_ok]
    have e10 : (rd_s S1).I 14 10 = S1.I 14 10 := rd_sI (by omega)
    obtain ⟨S2, hS2⟩ : ∃ S2, S2 = rd_s S1 := ⟨_, rfl⟩
    obtain ⟨T2, hT2⟩ : ∃ T2, T2 = rd_m T1 := ⟨_, rfl⟩
    rw [← hS2] at e10
    rw [← hS2, ← hT2] at h2 ⊢
    have n2 := h2.2.2.1.1
    have i2 : S2.I 14 10 = T2.A 103 0 := h2.2.2.2.1.1
    rcases rd_known (E := E) (d := e) (d' := e') (B := B) hE h2 (by omega) (by omega) c c' with ⟨y1, y2, y3, y4⟩ | ⟨v, x, v1, y1, y2⟩
    · obtain ⟨b, hb⟩ : ∃ b, b = rd_fN S2 := ⟨_, rfl⟩
      rw [← hb] at y2
      rw [y1, mm_cI_ok, mm_br_eq (by omega) (by omega) (by omega) (by omega), if_neg (by omega), y3, mm_cI_ok, y4, mm_cI_ok, mm_e86_42, ← hb]
      have eW : pp_Wf (S2.I 14 10) (S2.A (14 + 3)) = pp_Wr (T2.A 103) := pp_EQ_W h2.2.2.1 h2.2.2.2.1
      have hNK := pp_EQ_NK h2.2.2.1 h2.2.2.2.1
      have hGK := pp_EQ_GK h2.2.2.1 h2.2.2.2.1
      have hp := c_inOnePart (E := E) (d := e) (B := B) (c := c) (S := S2) (a := 14) (x := a) (y := b) (by omega) (by omega) hNK hGK (by omega) (by omega) y2.1 y2.2
      rw [eW] at hp
      obtain ⟨z, x1, x2, x3⟩ := m_partOf (E := E) (d := e') (B := B) (c := c') (S := T2) (r := 103) (x := a) rfl (by omega) h2.2.2.1 (by omega) (by omega)
      simp (disch := omega) only [mm_ptG, mm_ptM]
      rw [hp, mm_cI_ok, mm_br_b1, h2.1.2.2.1, mm_br_t rfl, x3, mm_cI_ok, c_isOf (by omega) x1.1 y2.1 (by omega), mm_cI_ok, mm_br_b1, x2 b y2.1]
      by_cases q : pp_cb (pp_Wr (T2.A 103)) a b = true
      · have x := rd_wX ⟨_, h2.2.2.1, h2.2.2.2.1⟩ h2.1 (v := 4) (by omega) (by omega)
        have b := rd_X_0 x
        rw [if_pos q, if_pos q, c_refuse (by omega), mm_cI_ok, mm_bz0, mm_e246_40, rd_wrg h2.1.2.1 h2.1.2.2.1 (by omega), mm_cV_ok, rd_pasb b.1 b.2 (by omega), mm_cV_ok, m_246b b.1 b.2]
        exact ⟨_, _, rd_FS_f S2 4, rd_FT_w T2 4, rfl, Or.inr ⟨rfl, x⟩⟩
      · have hcn : ¬ pp_cn (pp_Wr (T2.A 103)) a b := fun z => q (pp_cb_t.mpr z)
        have b3 := hNK.2.2.1 b y2.1 (by omega)
        have b4 := hNK.2.2.2.1 a z2.1 (by omega)
        have cj := c_join (E := E) (d := e) (B := B) (S := S2) (c := c) (a := 14) (i := a) (j := b) (by omega) (by omega) z2.1 (by omega) y2.1 (by omega) b3.1 b4.1
        obtain ⟨V, hV⟩ : ∃ V, V = (S2.sA (14 + 3) (mm_u (S2.A (14 + 3)) b (mm_ior (S2.A (14 + 3) b) (mm_pw a)))).sA (14 + 4) (mm_u (S2.A (14 + 4)) a (mm_ior (S2.A (14 + 4) a) (mm_pw b))) := ⟨_, rfl⟩
        rw [← hV] at cj
        have vT : rd_T V T2 := by rw [hV]; exact rd_T_c (S := S2) (T := T2) (fun _ _ => rfl) rfl (fun _ _ => rfl) rfl h2.1
        have vD : rd_D V (iv_jn (T2.A 103) a b) := rd_D_j (S := S2) (U := V) h2.2.2 (by rw [hV]; rfl) (by rw [hV]; rfl) (by rw [hV]; rfl) (by rw [hV]; rfl) z2.1 (by omega) y2.1 (by omega) hcn (by rw [hV]; rfl) (by rw [hV]; rfl)
        have mm := h2.2.2.1.2.2.1
        have mj := m_join (E := E) (d := e') (B := B) (S := rd_m T2) (c := c') (r := 103) (i := a) (j := b) (by omega) rfl (by show 0 ≤ T2.A 103 2; omega) (by show T2.A 103 2 ≤ 14; omega)
        have mj : mm_ev E e' 154 [.ref (mm_ad B 103), .int (mm_i a), .int (mm_i b)] (mm_hp B (rd_m T2) c') = mm_oV (mm_hp B ((rd_m T2).sA 103 (iv_jn (T2.A 103) a b)) c') := mj
        have m32 : (rd_m T2).I 101 32 = 0 := by rw [rd_mI (by omega)]; exact h2.1.2.2.1
        rw [if_neg q, if_neg q, rd_pas h2.1.2.1 h2.1.2.2.1 (by omega), mm_cV_ok, mm_e246_49]
        simp (disch := omega) only [mm_ptG]
        rw [cj, mm_cV_ok]
        simp (disch := omega) only [mm_ptG, mm_ptM]
        rw [m32, mm_br_t rfl, rd_adv vT.1 (by omega), mm_cV_ok, mm_bz1, mj, mm_cV_ok]
        have vp := rd_H_p vT
        have v3 : V.I 1 3 = S2.I 1 3 := by rw [hV]; rfl
        refine ⟨rd_s V, (rd_m T2).sA 103 (iv_jn (T2.A 103) a b), rd_FS_t (by rw [hV]; exact rd_FS_t (rd_FS_A S2 (by omega) _) (rd_FS_A _ (by omega) _)) (rd_FS_s V), rd_FT_t (rd_FT_m T2) (rd_FT_A _ _), rfl, Or.inl ⟨rfl, ⟨rd_T_c (S := rd_s V) (T := rd_m T2) (fun _ _ => rfl) rfl (fun _ _ => rfl) rfl (rd_next vT).1, ?_, ?_⟩, by omega⟩⟩
        · rw [rd_sI (by omega), hV]; exact h2.2.1
        · exact rd_D_c (S := V) (fun k _ => rd_sI (by omega)) (fun x _ _ => rfl) vD
    · have x := rd_wX ⟨_, h2.2.2.1, h2.2.2.2.1⟩ h2.1 v1.1 v1.2
      have b := rd_X_0 x
      have bm := b.1.1.2.2.2.2.2.2.2.2.2
      rw [y1, mm_cI_ok, mm_br_t rfl, mm_bz0, y2, mm_cI_ok]
      simp (disch := omega) only [mm_ptM, mm_br_eq]
      rw [if_neg b.2, rd_pasb b.1 b.2 (by omega), mm_cV_ok, m_246b b.1 b.2]
      exact ⟨_, _, rd_FS_f S2 v, rd_FT_w T2 v, rfl, Or.inr ⟨rfl, x⟩⟩
  · have x := rd_wX ⟨_, h1.2.2.1, h1.2.2.2.1⟩ h1.1 v1.1 v1.2
    have b := rd_X_0 x
    have bm := b.1.1.2.2.2.2.2.2.2.2.2
    rw [z1, mm_cI_ok, mm_br_t rfl, mm_bz0, z2, mm_cI_ok, rd_pasb b.1 b.2 (by omega), mm_cV_ok, rd_knownb b.1 b.2 (by omega), mm_cI_ok]
    simp (disch := omega) only [mm_ptM, mm_br_eq]
    rw [if_neg b.2, rd_pasb b.1 b.2 (by omega), mm_cV_ok, m_246b b.1 b.2]
    exact ⟨_, _, rd_FS_f S1 v, rd_FT_w T1 v, rfl, Or.inr ⟨rfl, x⟩⟩
end
