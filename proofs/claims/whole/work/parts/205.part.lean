/-! ASK: a part of a product -/
/-- the model's words of stage s have these values -/
def aq_M (E : mm_E) (B : Nat) (s : Int) (W : Int → Int) (T0 : mm_S) : Prop := ∀ (S T : mm_S) (d : Nat) (c : mm_N), 24 ≤ d → rd_T S T → T.A = T0.A → T.I 101 36 = s → (0 ≤ aq_wd S ∧ mm_ev E d 249 [.ref (mm_ad B 101)] (mm_hp B T c) = mm_oI (W (aq_wd S)) (mm_hp B T c)) ∨ (aq_wd S = -1 ∧ ∃ x : Int, mm_ev E d 249 [.ref (mm_ad B 101)] (mm_hp B T c) = mm_oI x (mm_hp B (rd_w T 1) c))
/-- how a reading of both ends -/
def aq_r (E : mm_E) (B : Nat) (c c' : mm_N) (k s p : Int) (W : Int → Int) (t1 : Int) (S T : mm_S) (C M : mm_R) : Prop := ∃ (S' T' : mm_S) (v : Int32), aq_FS S S' ∧ aq_FT T T' ∧ M = some (.inl (some (.int v)), mm_hp B T' c') ∧ ((C = mm_oI 1 (mm_hp B S' c) ∧ aq_G S' T' k s p ∧ S'.I 97 4 - S.I 97 4 ≤ S'.I 1 3 - S.I 1 3 ∧ S.I 1 3 < S'.I 1 3 ∧ (k = 1 → aq_C E B s W (S'.A 98) (S.I 97 4) (S'.I 97 4) v t1)) ∨ (C = mm_oI 0 (mm_hp B S' c) ∧ aq_X S' T'))
theorem aq_G_ms {S T : mm_S} {k s p v : Int} (h : aq_G S T k s p) (hk : S.I 1 5 ≠ 0) : aq_G (rd_s (aq_mk S v)) (rd_m T) k s p ∧ (rd_s (aq_mk S v)).I 97 4 = S.I 97 4 + 1 ∧ S.I 1 3 + 1 ≤ (rd_s (aq_mk S v)).I 1 3 ∧ (rd_s (aq_mk S v)).A 98 (S.I 97 4) = v ∧ S.I 97 4 < 200 := by
  obtain ⟨h1, h2, h3, h4, h5, h6, h7, h8⟩ := h
  have g : rd_T (aq_mk S v) T := rd_T_c (S := S) (T := T) (fun k _ => aq_mkI (by omega)) rfl (fun _ _ => rfl) rfl h1
  have n := rd_next g
  have y := h1.2.2.2.2.2.2.2.2 hk
  have y2 := h1.1.2.2.2.2.1
  have e14 : (aq_mk S v).I 1 4 = S.I 1 4 := aq_mkI (by omega)
  have e4 : (rd_s (aq_mk S v)).I 97 4 = S.I 97 4 + 1 := by rw [rd_sI (by omega)]; exact aq_mk4 S v
  refine ⟨⟨n.1, by rw [rd_sI (by omega), aq_mkI (by omega)]; exact h2, by rw [rd_mI (by omega)]; exact h3, by rw [rd_mI (by omega)]; exact h4, by rw [rd_mI (by omega)]; exact h5, by rw [rd_sI (by omega), aq_mkI (by omega)]; exact h6, by rw [e4]; omega, by rw [e4]; omega⟩, e4, by omega, ?_, by omega⟩
  show mm_u (S.A 98) (S.I 97 4) v (S.I 97 4) = v
  exact mm_u_eq _ _ _
theorem aq_sg2 {S : mm_S} {x : Int} (h : S.I 1 5 ≠ 3) : rd_sg S x = false := by
  unfold rd_sg
  rw [decide_eq_false h, Bool.false_and]
theorem aq_sg3 {S : mm_S} {x : Int} (h : rd_sg S x = true) : S.I 1 5 = 3 := by
  unfold rd_sg at h
  rw [Bool.and_eq_true] at h
  exact of_decide_eq_true h.1
section
variable {E : mm_E} {d d' B : Nat} {S T : mm_S} {c c' : mm_N} {k s p : Int} {W : Int → Int}
theorem m_253b (h : rd_M T) (hb : T.I 101 32 ≠ 0) (hd : 1 ≤ d) : mm_ev E d 253 [.ref (mm_ad B 101)] (mm_hp B T c) = mm_oI 0 (mm_hp B T c) := by
  have bm := h.1.2.2.2.2.2.2.2.2.2
  refine mm_v253 (by omega) (fun F e hF he => ?_)
  rw [mm_e253_0]
  simp (disch := omega) only [mm_ptM, mm_br_eq]
  rw [if_neg hb]
theorem m_255x {n e : Nat} {v : Int32} (h : rd_M T) (hb : T.I 101 32 ≠ 0) (hd : 1 ≤ e) : mm_r255_5 E (mm_ev E e) (n + 1) (mm_ad B 101) v (mm_hp B T c) = some (.inl (some (.int v)), mm_hp B T c) := by
  rw [mm_e255_5, rd_isSMb h hb hd (by omega), mm_cI_ok, mm_br_t rfl]
theorem m_255b (h : rd_M T) (hb : T.I 101 32 ≠ 0) (hd : 2 ≤ d) : mm_ev E d 255 [.ref (mm_ad B 101)] (mm_hp B T c) = mm_oI 0 (mm_hp B T c) := by
  refine mm_v255 (by omega) (fun F e hF he => ?_)
  rw [mm_e255_0, m_253b h hb (by omega), mm_cI_ok]
  exact m_255x h hb (by omega)
theorem m_256x {n e : Nat} {v : Int32} {o2 o3 : Option Value} (h : rd_M T) (hb : T.I 101 32 ≠ 0) (hd : 1 ≤ e) : mm_r256_5 E (mm_ev E e) (n + 1) (mm_ad B 101) v o2 o3 (mm_hp B T c) = some (.inl (some (.int v)), mm_hp B T c) := by
  rw [mm_e256_5, rd_isSMb h hb hd (by omega), mm_cI_ok, mm_br_t rfl, rd_isSMb h hb hd (by omega), mm_cI_ok, mm_br_t rfl]
theorem m_256b (h : rd_M T) (hb : T.I 101 32 ≠ 0) (hd : 3 ≤ d) : mm_ev E d 256 [.ref (mm_ad B 101)] (mm_hp B T c) = mm_oI 0 (mm_hp B T c) := by
  refine mm_v256 (by omega) (fun F e hF he => ?_)
  rw [mm_e256_0, m_255b h hb (by omega), mm_cI_ok]
  exact m_256x h hb (by omega)
/-- one bracket more -/
theorem m_goes (h : aq_G S T k s p) (hp : 0 ≤ p ∧ p ≤ 6) (hd : 4 ≤ d) : mm_ev E d 252 [.ref (mm_ad B 101)] (mm_hp B T c) = mm_oV (mm_hp B (if p < 6 then rd_m (T.sI 101 35 (p + 1)) else (rd_w T 3).sI 101 35 7) c) := by
  have hG := aq_G_o (q := p + 1) h
  obtain ⟨h1, h2, h3, h4, h5, h6, h7, h8⟩ := h
  refine mm_v252 (by omega) (fun F e hF he => ?_)
  rw [mm_e252_0]
  simp (disch := omega) only [mm_ptM]
  rw [h1.2.2.1, mm_br_t rfl, h5, mm_br_eq (by omega) (by omega) (by omega) (by omega)]
  by_cases q : p < 6
  · rw [if_neg (by omega), if_pos q]
    simp (disch := omega) only [mm_hm]
    simp (disch := omega) only [mm_ptM]
    rw [rd_pas hG.1.2.1 hG.1.2.2.1 (by omega), mm_cV_ok]
  · have x := aq_X_o (aq_wX h1 (v := 3) (by omega) (by omega)) 7
    have b := aq_X_0 x
    have w35 : (rd_w T 3).I 101 35 = 6 := by rw [rd_wI (by omega), h5]; omega
    rw [if_pos (by omega), if_neg q, rd_wrg h1.2.1 h1.2.2.1 (by omega), mm_cV_ok]
    simp (disch := omega) only [mm_ptM]
    rw [w35]
    simp (disch := omega) only [mm_hm]
    simp (disch := omega) only [mm_ptM]
    rw [show (6 : Int) + 1 = 7 from rfl, rd_pasb b.1 b.2 (by omega), mm_cV_ok]
theorem aq_part (hE : pp_OE E B) (hk : k = 0 ∨ k = 1) (hp : 0 ≤ p ∧ p ≤ 6) (hM : k = 1 → aq_M E B s W T) (h : aq_G S T k s p) (hd : 10 ≤ d) (hd' : 30 ≤ d') (IH : p < 6 → ∀ S1 T1 : mm_S, T1.A = T.A → aq_G S1 T1 k s (p + 1) → aq_r E B c c' k s (p + 1) W (32 + 2 * p) S1 T1 (mm_ev E (d - 1) 66 [.ref (mm_ad B 97), .int (mm_i (p + 1))] (mm_hp B S1 c)) (mm_ev E (d' - 1) 256 [.ref (mm_ad B 101)] (mm_hp B T1 c'))) : aq_r E B c c' k s p W (32 + 2 * p) S T (mm_ev E d 67 [.ref (mm_ad B 97), .int (mm_i p)] (mm_hp B S c)) (mm_ev E d' 253 [.ref (mm_ad B 101)] (mm_hp B T c')) := by
  obtain ⟨e, rfl⟩ : ∃ e, d = e + 1 := ⟨d - 1, by omega⟩
  obtain ⟨e', rfl⟩ : ∃ e', d' = e' + 1 := ⟨d' - 1, by omega⟩
  rw [show e + 1 - 1 = e from rfl, show e' + 1 - 1 = e' from rfl] at IH
  obtain ⟨F, hF, hc⟩ := mm_w67 E e B S c (mm_i p)
  obtain ⟨G, hG, hm⟩ := mm_w253 E e' B T c'
  have hT := h.1
  obtain ⟨k1, k2, k3, k4, k5, k6, k7, k8⟩ := hT.1
  have k29 := hT.2.2.2.2.2.2.2.1
  have ms := fun v => aq_G_ms (v := v) h
  have h97 := h.2.2.2.2.2.2.1
  rw [hc, hm, mm_e67_0, mm_e253_0]
  simp (disch := omega) only [mm_ptQ, mm_ptM]
  rw [rd_isS hT.1 (by omega) (by omega), mm_cI_ok, mm_br_b1, hT.2.2.1, mm_br_t rfl, k29, mm_br_eq (by omega) (by omega) (by omega) (by omega)]
  by_cases q2 : S.I 1 5 = 2
  · -- a number
    obtain ⟨N, n1, n2, n3⟩ := rd_num (E := E) (B := B) hT q2
    have sg : ¬ rd_sg S 40 = true := by rw [aq_sg2 (by omega)]; decide
    obtain ⟨X, hX, hx⟩ := mm_w68 E (e - 1) B S c
    rw [show e - 1 + 1 = e by omega] at hx
    rw [if_neg sg, if_pos q2, hx, mm_e68_0, n3 e' c' 9999 (by omega) (by omega) (by omega), mm_cI_ok]
    simp (disch := omega) only [mm_ptQ]
    simp (disch := omega) only [mm_ptT, mm_br_eq]
    rw [if_pos q2, n2 (e - 1) c (by omega), mm_cI_ok, mm_br_lt (by omega) (by omega) (by omega) (by omega)]
    by_cases qN : N ≤ 9999
    · obtain ⟨g1, g2, g3, g4, g5⟩ := ms (100 + N) (by omega)
      have kt : pp_KT (aq_mk S (100 + N)) := rd_KT_c (S := S) (fun k _ => aq_mkI (by omega)) rfl hT.1
      rw [if_neg (show ¬ 9999 < N by omega), if_pos qN]
      simp (disch := omega) only [mm_hm]
      rw [c_mark (by omega) (100 + N) h97 g5, mm_cI_ok, mm_bz1, mm_cI_ok, mm_br_eq (by omega) (by omega) (by omega) (by omega), if_neg (by omega), mm_e67_70]
      simp (disch := omega) only [mm_ptQ]
      rw [rd_adv kt (by omega), mm_cV_ok, mm_bz1]
      refine ⟨rd_s (aq_mk S (100 + N)), rd_m T, mm_i N, aq_FS_t (aq_FS_mk S _) (aq_FS_s _), aq_FT_m T, by rw [show min N 10000 = N by omega], Or.inl ⟨rfl, g1, by omega, by omega, fun _ => ?_⟩⟩
      rw [g2]
      exact aq_C_n h97 (by omega) (by omega) g4
    · rw [if_pos (show 9999 < N by omega), if_neg qN, c_refuseQ (by omega), mm_cI_ok, mm_bz0, mm_cI_ok, mm_br_t rfl, mm_bz0]
      exact ⟨_, _, _, aq_FS_f S 2, aq_FT_w T 2, rfl, Or.inr ⟨rfl, aq_wX hT (by omega) (by omega)⟩⟩
  · rw [if_neg q2, rd_isSM hT (by omega) (by omega), mm_cI_ok, mm_br_b1]
    by_cases q3 : rd_sg S 40 = true
    · -- in brackets
      have s3 := aq_sg3 q3
      have st := hT.2.2.2.2.2.2.2.2 (by omega)
      rw [if_pos q3, if_pos q3, m_goes h hp (by omega), mm_cV_ok, mm_br_lt (by omega) (by omega) (by omega) (by omega)]
      by_cases q6 : p < 6
      · have hG := aq_G_s (aq_G_o (q := p + 1) h)
        rw [if_pos q6, if_pos q6]
        simp (disch := omega) only [mm_ptQ]
        rw [rd_adv hT.1 (by omega), mm_cV_ok]
        simp (disch := omega) only [mm_hm]
        obtain ⟨S1, T1, v, f1, f2, f3, f4⟩ := IH q6 (rd_s S) (rd_m (T.sI 101 35 (p + 1))) rfl hG.1
        have fS := aq_FS_t (aq_FS_s S) f1
        have fT := aq_FT_t (aq_FT_o T (p + 1)) (aq_FT_t (aq_FT_m _) f2)
        rw [f3, mm_cI_ok]
        rcases f4 with ⟨g1, g2, g3, g4, g5⟩ | ⟨g1, g2⟩
        · have i35 : ∀ U : mm_S, U.I 101 35 = p + 1 → mm_r253_49 E (mm_ev E e') (G + 99) (mm_ad B 101) v (mm_hp B U c') = some (.inl (some (.int v)), mm_hp B (U.sI 101 35 p) c') := fun U hU => by
            rw [mm_e253_49]
            simp (disch := omega) only [mm_ptM]
            rw [hU]
            simp (disch := omega) only [mm_hm]
            simp (disch := omega) only [mm_ptM]
            rw [show p + 1 - 1 = p by omega]
          rw [g1, mm_cI_ok, mm_br_eq (by omega) (by omega) (by omega) (by omega), if_neg (by omega)]
          simp (disch := omega) only [mm_ptQ]
          rw [rd_isS g2.1.1 (by omega) (by omega), mm_cI_ok, mm_br_b1, rd_must g2.1 (by omega) (by omega), mm_cV_ok]
          by_cases q4 : rd_sg S1 41 = true
          · have hS := aq_G_s g2
            have s4 := g2.1.2.2.2.2.2.2.2.2 (by rw [aq_sg3 q4]; omega)
            have e97 := hG.2.2
            rw [if_pos q4, if_pos q4, mm_e67_70]
            simp (disch := omega) only [mm_ptQ]
            rw [rd_adv g2.1.1 (by omega), mm_cV_ok, mm_bz1, i35 _ (by rw [rd_mI (by omega)]; exact g2.2.2.2.2.1)]
            have hgp := hG.2.1
            refine ⟨rd_s S1, (rd_m T1).sI 101 35 p, v, aq_FS_t fS (aq_FS_s S1), aq_FT_t fT (aq_FT_t (aq_FT_m T1) (aq_FT_o _ p)), rfl, Or.inl ⟨rfl, aq_G_o hS.1, by omega, by omega, fun hk1 => ?_⟩⟩
            have z := g5 hk1
            rw [e97] at z
            rw [hS.2.2]
            exact z
          · rw [if_neg q4, if_neg q4, mm_e67_55, c_refuseQ (by omega), mm_cI_ok, mm_bz0, i35 _ (by rw [rd_wI (by omega)]; exact g2.2.2.2.2.1)]
            exact ⟨_, _, _, aq_FS_t fS (aq_FS_f S1 1), aq_FT_t fT (aq_FT_t (aq_FT_w T1 1) (aq_FT_o _ p)), rfl, Or.inr ⟨rfl, aq_X_o (aq_wX g2.1 (by omega) (by omega)) p⟩⟩
        · have b := aq_X_0 g2
          rw [g1, mm_cI_ok, mm_br_t rfl, mm_bz0, rd_mustb b.1 b.2 (by omega) (by omega), mm_cV_ok, mm_e253_49]
          simp (disch := omega) only [mm_ptM, mm_hm]
          exact ⟨S1, _, _, fS, aq_FT_t fT (aq_FT_o T1 _), rfl, Or.inr ⟨rfl, aq_X_o g2 _⟩⟩
      · have x := aq_X_o (aq_wX hT (v := 3) (by omega) (by omega)) 7
        have b := aq_X_0 x
        rw [if_neg q6, if_neg q6, c_refuseQ (by omega), mm_cI_ok, mm_bz0, m_256b b.1 b.2 (by omega), mm_cI_ok, rd_mustb b.1 b.2 (by omega) (by omega), mm_cV_ok, mm_e253_49]
        simp (disch := omega) only [mm_ptM, mm_hm]
        exact ⟨_, _, _, aq_FS_f S 3, aq_FT_t (aq_FT_w T 3) (aq_FT_t (aq_FT_o _ 7) (aq_FT_o _ _)), rfl, Or.inr ⟨rfl, aq_X_o x _⟩⟩
    · -- a word
      obtain ⟨X, hX, hx⟩ := mm_w68 E (e - 1) B S c
      rw [show e - 1 + 1 = e by omega] at hx
      have k37 : T.I 101 37 = k := h.2.2.1
      have wr : aq_wd S = -1 ∨ (0 ≤ aq_wd S ∧ aq_wd S < 19) := by
        rcases aq_find_r (S := S) aq_vl 0 (by omega) with z | z
        · exact Or.inl z
        · refine Or.inr ⟨z.1, ?_⟩
          have y := z.2
          have y2 : (aq_vl.length : Int) = 19 := rfl
          unfold aq_wd
          omega
      rw [if_neg q3, if_neg q3, hx, mm_e68_0]
      simp (disch := omega) only [mm_ptQ, mm_ptM]
      simp (disch := omega) only [mm_ptT, mm_br_eq]
      rw [if_neg q2, c_amongV hE hT.1 (by omega), mm_cI_ok, mm_br_eq (by omega) (by omega) (by omega) (by omega), k37, m_lookW hE hT (by omega), mm_cI_ok]
      by_cases qw : aq_wd S = -1
      · have x := aq_wX hT (v := 1) (by omega) (by omega)
        have b := aq_X_0 x
        rw [if_pos qw, c_refuseQ (by omega), mm_cI_ok, mm_bz0, mm_cI_ok, mm_br_t rfl, mm_bz0, if_pos qw, rd_pasb b.1 b.2 (by omega), mm_cV_ok]
        by_cases qk : k = 0
        · rw [if_pos qk]
          exact ⟨_, _, _, aq_FS_f S 1, aq_FT_w T 1, rfl, Or.inr ⟨rfl, x⟩⟩
        · rw [if_neg qk]
          rcases hM (by omega) S T e' c' (by omega) hT rfl h.2.2.2.1 with ⟨z, -⟩ | ⟨-, y, z⟩
          · omega
          · rw [z, mm_cI_ok, rd_pasb b.1 b.2 (by omega), mm_cV_ok]
            exact ⟨_, _, _, aq_FS_f S 1, aq_FT_w T 1, rfl, Or.inr ⟨rfl, x⟩⟩
      · have q1 : S.I 1 5 ≠ 0 := by
          by_cases z : S.I 1 5 = 1
          · omega
          · exact absurd (aq_no z aq_vl 0) qw
        obtain ⟨g1, g2, g3, g4, g5⟩ := ms (aq_wd S) q1
        have kt : pp_KT (aq_mk S (aq_wd S)) := rd_KT_c (S := S) (fun k _ => aq_mkI (by omega)) rfl hT.1
        rw [if_neg qw, c_mark (by omega) (aq_wd S) h97 g5, mm_cI_ok, mm_bz1, mm_cI_ok, mm_br_eq (by omega) (by omega) (by omega) (by omega), if_neg (by omega), mm_e67_70, if_neg qw, rd_pas hT.2.1 hT.2.2.1 (by omega), mm_cV_ok]
        simp (disch := omega) only [mm_ptQ]
        rw [rd_adv kt (by omega), mm_cV_ok, mm_bz1]
        by_cases qk : k = 0
        · rw [if_pos qk]
          exact ⟨_, _, _, aq_FS_t (aq_FS_mk S _) (aq_FS_s _), aq_FT_m T, rfl, Or.inl ⟨rfl, g1, by omega, by omega, fun z => by omega⟩⟩
        · rw [if_neg qk]
          rcases hM (by omega) S T e' c' (by omega) hT rfl h.2.2.2.1 with ⟨-, z⟩ | ⟨z, -⟩
          · rw [z, mm_cI_ok, rd_pas hT.2.1 hT.2.2.1 (by omega), mm_cV_ok]
            refine ⟨_, _, _, aq_FS_t (aq_FS_mk S _) (aq_FS_s _), aq_FT_m T, rfl, Or.inl ⟨rfl, g1, by omega, by omega, fun _ => ?_⟩⟩
            rw [g2]
            exact aq_C_w h97 (by omega) (by omega) g4
          · omega
end
