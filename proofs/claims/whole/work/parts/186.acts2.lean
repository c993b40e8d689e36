/-! ACTS: what class and model do alike -/
theorem iv_NTc {T U : mm_S} (hI : ∀ k, k = 10 ∨ k = 11 → U.I 3 k = T.I 3 k) (hA : ∀ x, 4 ≤ x → x ≤ 13 → U.A x = T.A x) (h : pp_NT T 3) : pp_NT U 3 := by
  unfold pp_NT pp_NK pp_GK at h ⊢
  rw [hI 10 (by omega), hI 11 (by omega), hA (3 + 1) (by omega) (by omega), hA (3 + 3) (by omega) (by omega), hA (3 + 4) (by omega) (by omega), hA (3 + 7) (by omega) (by omega), hA (3 + 8) (by omega) (by omega), hA (3 + 9) (by omega) (by omega), hA (3 + 10) (by omega) (by omega)]
  exact h
theorem iv_EQc {T U : mm_S} {f : Int → Int} (hI : ∀ k, k = 10 ∨ k = 11 → U.I 3 k = T.I 3 k) (hA : ∀ x, 4 ≤ x → x ≤ 13 → U.A x = T.A x) (h : pp_EQ T 3 f) : pp_EQ U 3 f := by
  unfold pp_EQ at h ⊢
  rw [hI 10 (by omega), hI 11 (by omega), hA (3 + 1) (by omega) (by omega), hA (3 + 2) (by omega) (by omega), hA (3 + 3) (by omega) (by omega), hA (3 + 4) (by omega) (by omega)]
  exact h
/-- the class's network changed, and settled -/
def iv_cP (S T : mm_S) (g : Int → Int) : Prop := pp_NT T 3 ∧ pp_EQ T 3 g ∧ T.I 3 12 = S.I 3 12 + 1 ∧ (∀ x k, x ≠ 3 → T.I x k = S.I x k) ∧ (∀ x, ¬ (4 ≤ x ∧ x ≤ 13) → T.A x = S.A x) ∧ T.A 8 = S.A 8 ∧ T.A 9 = S.A 9
/-- and the act noted -/
def iv_cA (S T : mm_S) (g : Int → Int) (kd st ws : Int) : Prop := pp_NT T 3 ∧ pp_EQ T 3 g ∧ T.I 3 12 = S.I 3 12 + 1 ∧ (∀ x k, x ≠ 3 → x ≠ 36 → T.I x k = S.I x k) ∧ (∀ x, ¬ (4 ≤ x ∧ x ≤ 13) → ¬ (37 ≤ x ∧ x ≤ 39) → T.A x = S.A x) ∧ T.A 8 = S.A 8 ∧ T.A 9 = S.A 9 ∧ T.I 36 3 = min (S.I 36 3 + 1) 20 ∧ T.I 36 4 = (if S.I 36 4 = 19 then 0 else S.I 36 4 + 1) ∧ T.A 37 = mm_u (S.A 37) (S.I 36 4) kd ∧ T.A 38 = mm_u (S.A 38) (S.I 36 4) st ∧ T.A 39 = mm_u (S.A 39) (S.I 36 4) ws
def iv_p1 (S : mm_S) (P : Int → Int) : Prop := ∀ i : Int, 0 ≤ i → i < 190 → P (190 * (min (S.I 36 3 + 1) 20 - 1) + i) = S.A 102 i
def iv_p2 (S : mm_S) (P : Int → Int) : Prop := ∀ r i : Int, 0 ≤ r → r < min (S.I 36 3 + 1) 20 - 1 → 0 ≤ i → i < 190 → P (190 * r + i) = S.A 104 (190 * (r + (S.I 36 3 + 1 - min (S.I 36 3 + 1) 20)) + i)
theorem iv_aok {S T U : mm_S} {k : Nat} {g : Int → Int} {kd st ws : Int} (h : iv S k) (hc : iv_cA S T g kd st ws) (uI : ∀ x k, ¬ (x = 101 ∧ (k = 0 ∨ k = 4)) → U.I x k = T.I x k) (uA : ∀ x, x ≠ 102 → x ≠ 104 → x ≠ 105 → x ≠ 106 → U.A x = T.A x) (e5 : U.I 101 4 = min (S.I 36 3 + 1) 20) (p1 : iv_p1 S (U.A 104)) (p2 : iv_p2 S (U.A 104)) (hg : U.A 102 = g) (hR : pp_RO g) (hst : iv_st kd st ws g (S.A 102)) (h2 : iv_R2 g) (hD : iv_TD (g 0) (S.A 8) (U.A 105) (S.A 9) (U.A 106)) : iv U (k + 1) := by
  obtain ⟨c1, c2, c3, c4, c5, c6, c7, c8, c9, c10, c11, c12⟩ := hc
  have n0 : T.I 3 10 = g 0 := c2.1
  refine iv_act (kd := kd) (st := st) (ws := ws) h (fun x k hx hn => ?_) (fun x hx hn => ?_) ?_ ?_ e5 ?_ ?_ ?_ p1 p2 (by rw [hg]; exact hst) ⟨by rw [hg]; exact hR, by rw [hg]; exact iv_EQc (fun k hk => uI 3 k (by omega)) (fun x h1 h2 => uA x (by omega) (by omega) (by omega) (by omega)) c2, iv_NTc (fun k hk => uI 3 k (by omega)) (fun x h1 h2 => uA x (by omega) (by omega) (by omega) (by omega)) c1⟩ ?_ ?_ (by rw [hg]; exact h2)
  · unfold iv_rI at hx
    unfold iv_nI at hn
    rw [uI x k (by omega)]
    exact c4 x k (by omega) (by omega)
  · unfold iv_rA at hx
    unfold iv_nA at hn
    rw [uA x (by omega) (by omega) (by omega) (by omega)]
    exact c5 x (by omega) (by omega)
  · rw [uI 36 3 (by omega)]; exact c8
  · rw [uI 36 4 (by omega)]; exact c9
  · rw [uA 37 (by omega) (by omega) (by omega) (by omega)]; exact c10
  · rw [uA 38 (by omega) (by omega) (by omega) (by omega)]; exact c11
  · rw [uA 39 (by omega) (by omega) (by omega) (by omega)]; exact c12
  · rw [uI 3 10 (by omega), n0, uA 8 (by omega) (by omega) (by omega) (by omega), uA 9 (by omega) (by omega) (by omega) (by omega), c6, c7]; exact hD
  · rw [uI 3 12 (by omega), c3]; omega
section
variable {E : mm_E} {d B : Nat} {S : mm_S} {k : Nat} {c : mm_N}
theorem iv_setl {f : Int → Int} (hd : 3 ≤ d) (hR : pp_RO f) (hQ : pp_EQ S 3 f) (hL : ∀ s : Int, 0 ≤ s → s < 12 → 0 ≤ S.A (3 + 10) s ∧ S.A (3 + 10) s ≤ 200) : ∃ T, mm_ev E d 43 [.ref (mm_ad B 3)] (mm_hp B S c) = mm_oV (mm_hp B T c) ∧ pp_NT T 3 ∧ pp_EQ T 3 f ∧ T.I 3 12 = S.I 3 12 + 1 ∧ (∀ x k, ¬ (x = 3 ∧ k = 12) → T.I x k = S.I x k) ∧ (∀ x, ¬ (10 ≤ x ∧ x ≤ 13) → T.A x = S.A x) := by
  have hN := pp_EQ_NK hR hQ
  have hG := pp_EQ_GK hR hQ
  obtain ⟨ord, fl, wd, L, g1, g2⟩ := c_settle (E := E) (d := d) (B := B) (c := c) (S := S) (a := 3) hd (by omega) hN hG hL
  obtain ⟨U, hU⟩ : ∃ U, U = (((((S.sI 3 12 (S.I 3 12 + 1)).sA (3 + 7) ord).sA (3 + 8) fl).sA (3 + 9) wd).sA (3 + 10) L) := ⟨_, rfl⟩
  rw [← hU] at g2
  refine ⟨U, g2, by rw [hU]; exact ⟨hN, hG, g1⟩, by rw [hU]; exact hQ, by rw [hU]; exact mm_gs.1 _ _ _ _, fun x k hx => ?_, fun x hx => ?_⟩
  · rw [hU]
    show (S.sI 3 12 _).I x k = _
    exact mm_gI_ne hx
  · rw [hU, mm_gA_ne (by omega), mm_gA_ne (by omega), mm_gA_ne (by omega), mm_gA_ne (by omega)]
    rfl
theorem iv_note {T : mm_S} {g : Int → Int} {kd st ws : Int} (hd : 1 ≤ d) (h : iv S k) (hc : iv_cP S T g) : ∃ U, mm_ev E d 1 [.ref (mm_ad B 36), .int (mm_i kd), .int (mm_i st), .int (mm_i ws)] (mm_hp B T c) = mm_oV (mm_hp B U c) ∧ iv_cA S U g kd st ws := by
  obtain ⟨h1, h2, h3, h4, h5, h6, h7⟩ := hc
  obtain ⟨c1, c2, c3, -⟩ := h.2.2.2.2.2.1
  have i3 := h4 36 3 (by omega)
  have i4 := h4 36 4 (by omega)
  have b7 := h5 37 (by omega)
  have b8 := h5 38 (by omega)
  have b9 := h5 39 (by omega)
  have e := c_note (E := E) (d := d) (B := B) (S := T) (c := c) (k := kd) (s := st) (w := ws) hd (by omega) (by omega) (by omega) (by omega)
  rw [i3, i4, b7, b8, b9] at e
  obtain ⟨U, hU⟩ : ∃ U, U = (((((T.sA 37 (mm_u (S.A 37) (S.I 36 4) kd)).sA 38 (mm_u (S.A 38) (S.I 36 4) st)).sA 39 (mm_u (S.A 39) (S.I 36 4) ws)).sI 36 4 (if S.I 36 4 = 19 then 0 else S.I 36 4 + 1)).sI 36 3 (min (S.I 36 3 + 1) 20)) := ⟨_, rfl⟩
  rw [← hU] at e
  refine ⟨U, e, by rw [hU]; exact h1, by rw [hU]; exact h2, by rw [hU]; exact h3, fun x k hx hy => ?_, fun x hx hy => ?_, by rw [hU]; exact h6, by rw [hU]; exact h7, by rw [hU]; exact mm_gs.1 _ _ _ _, ?_, by rw [hU]; rfl, by rw [hU]; rfl, by rw [hU]; rfl⟩
  · rw [hU, mm_gI_ne (by omega), mm_gI_ne (by omega)]
    exact h4 x k hx
  · rw [hU]
    show (((T.sA 37 _).sA 38 _).sA 39 _).A x = _
    rw [mm_gA_ne (by omega), mm_gA_ne (by omega), mm_gA_ne (by omega)]
    exact h5 x hx
  · rw [hU, mm_gI_ne (by omega)]; exact mm_gs.1 _ _ _ _
theorem iv_keep {V : mm_S} (hd : 1 ≤ d) (h : iv S k) (v4 : V.I 101 4 = S.I 101 4) (v2 : V.A 102 = S.A 102) (v3 : V.A 104 = S.A 104) : ∃ P, iv_p1 S P ∧ iv_p2 S P ∧ mm_ev E d 171 [.ref (mm_ad B 101)] (mm_hp B V c) = mm_oV (mm_hp B ((V.sI 101 4 (min (S.I 36 3 + 1) 20)).sA 104 P) c) := by
  obtain ⟨c1, c2, c3, -⟩ := h.2.2.2.2.2.1
  obtain ⟨P, q1, q2, q3⟩ := m_keep (E := E) (d := d) (B := B) (S := V) (c := c) hd (by omega) (by omega)
  rw [v4, c1, v2] at q1
  rw [v4, c1, v3] at q2
  rw [v4, c1] at q3
  exact ⟨P, q1, q2, q3⟩
theorem iv_13 (h : iv S k) : ∀ s : Int, 0 ≤ s → s < 12 → 0 ≤ S.A (3 + 10) s ∧ S.A (3 + 10) s ≤ 200 := h.2.1.2.2.2.2.2.2.2.2.2
-- one number told
theorem iv_cT (h : iv S k) (hE : pp_OE E B) (hd : 5 ≤ d) {s w v : Int} (s0 : 0 ≤ s) (s1 : s < S.I 3 10) (w0 : 0 ≤ w) (w1 : w < 7) (hv : iv_n v) (h3 : pp_ml w ≤ v) (h4 : v ≤ pp_mo w) : ∃ T, mm_ev E d 140 [.ref (mm_ad B 0), .int (mm_i s), .int (mm_i w), .int (mm_i v)] (mm_hp B S c) = mm_oI (S.A 102 (3 + 7 * s + w)) (mm_hp B T c) ∧ iv_cA S T (mm_u (S.A 102) (3 + 7 * s + w) v) w s (S.A 102 (3 + 7 * s + w)) := by
  obtain ⟨e, rfl⟩ : ∃ e, d = e + 1 := ⟨d - 1, by omega⟩
  obtain ⟨F, hF, he⟩ := mm_w140 E e B S c (mm_i s) (mm_i w) (mm_i v)
  have nn := iv_nn h
  have eN := iv_N h
  have hR := h.2.1.1
  have hG := iv_rowu hR s0 (by omega) w0 w1 h3 (Or.inl h4)
  have q := iv_EQu (S := S) (T := S.sA 4 (mm_u (S.A 4) (s * 7 + w) v)) (a := 3) h.2.1.2.1 hR rfl rfl rfl rfl rfl rfl s0 (by omega) w0 w1 h3 (Or.inl h4)
  have ew : S.A (3 + 1) (s * 7 + w) = S.A 102 (3 + 7 * s + w) := h.2.1.2.1.2.2.2.1 s w s0 (by omega) w0 w1
  have l13 := iv_13 h
  obtain ⟨T, t1, t2, t3, t4, t5, t6⟩ := iv_setl (E := E) (d := e) (B := B) (S := S.sA 4 (mm_u (S.A 4) (s * 7 + w) v)) (c := c) (by omega) hG q l13
  have hc : iv_cP S T (mm_u (S.A 102) (3 + 7 * s + w) v) := by
    refine ⟨t2, t3, t4, fun x k hx => t5 x k (by omega), fun x hx => ?_, t6 8 (by omega), t6 9 (by omega)⟩
    rw [t6 x (by omega)]
    exact mm_gA_ne (by omega)
  obtain ⟨U, u1, u2⟩ := iv_note (E := E) (d := e) (B := B) (c := c) (kd := w) (st := s) (ws := S.A 102 (3 + 7 * s + w)) (by omega) h hc
  rw [mm_e140_0, c_fits hE (by omega) (by omega) (by omega) hv.1 hv.2, mm_cI_ok, mm_br_b1, if_pos (decide_eq_true (by omega))] at he
  simp (disch := omega) only [mm_ptP] at he
  rw [c_told (by omega) (by omega) s0 (by omega) w0 w1, mm_cI_ok] at he
  simp (disch := omega) only [mm_ptP] at he
  rw [c_tell (by omega) (by omega) s0 (by omega) w0 w1, mm_cV_ok] at he
  simp (disch := omega) only [mm_ptP] at he
  rw [t1, mm_cV_ok, mm_e140_47] at he
  simp (disch := omega) only [mm_ptP] at he
  rw [ew, u1, mm_cV_ok] at he
  exact ⟨U, he, u2⟩
theorem iv_cTx (h : iv S k) (hE : pp_OE E B) (hd : 2 ≤ d) {s w v : Int} (w0 : 0 ≤ w) (w1 : w < 7) (hv : iv_n v) (h3 : ¬ (pp_ml w ≤ v ∧ v ≤ pp_mo w)) : mm_ev E d 140 [.ref (mm_ad B 0), .int (mm_i s), .int (mm_i w), .int (mm_i v)] (mm_hp B S c) = pp_th 1 S c B := by
  refine mm_v140 (by omega) (fun F e hF he => ?_)
  rw [mm_e140_0, c_fits hE (by omega) (by omega) (by omega) hv.1 hv.2, mm_cI_ok, mm_br_b1, if_neg (fun z => h3 (of_decide_eq_true z).2.2)]
  rfl
-- z
theorem iv_cZ (h : iv S k) (hd : 5 ≤ d) {v : Int} (h3 : 0 ≤ v) (h4 : v ≤ 400) : ∃ T, mm_ev E d 139 [.ref (mm_ad B 0), .int (mm_i v)] (mm_hp B S c) = mm_oI (S.A 102 1) (mm_hp B T c) ∧ iv_cA S T (mm_u (S.A 102) 1 v) 7 0 (S.A 102 1) := by
  obtain ⟨e, rfl⟩ : ∃ e, d = e + 1 := ⟨d - 1, by omega⟩
  obtain ⟨F, hF, he⟩ := mm_w139 E e B S c (mm_i v)
  have nn := iv_nn h
  have eN := iv_N h
  have hR := h.2.1.1
  have ez : S.I 3 11 = S.A 102 1 := h.2.1.2.1.2.1
  have m : ∀ i : Int, i ≠ 1 → mm_u (S.A 102) 1 v i = S.A 102 i := fun i hi => mm_u_ne hi
  have hG : pp_RO (mm_u (S.A 102) 1 v) := pp_RO_same hR (m 0 (by omega)) (by rw [mm_u_eq]; omega) (m 2 (by omega)) (fun l l0 l1 => ⟨m _ (by omega), m _ (by omega)⟩) (fun t t0 t1 => by
    have q := hR.2.2.2.2.1 t t0 t1
    unfold pp_tR at q ⊢
    dsimp only at q ⊢
    rw [m _ (by omega), m _ (by omega), m _ (by omega), m _ (by omega), m _ (by omega), m _ (by omega), m _ (by omega)]
    exact q)
  have q : pp_EQ (S.sI 3 11 v) 3 (mm_u (S.A 102) 1 v) := pp_EQ_z (S := S) (T := S.sI 3 11 v) h.2.1.2.1 (mm_gI_ne (by omega)) (mm_gs.1 _ _ _ _) rfl rfl rfl rfl (m 0 (by omega)) (mm_u_eq _ _ _) ⟨m 2 (by omega), fun l l0 l1 => ⟨m _ (by omega), m _ (by omega)⟩⟩ (fun s w s0 s1 w0 w1 => m _ (by omega)) (fun s w s0 s1 w0 w1 => m _ (by omega))
  have l13 := iv_13 h
  obtain ⟨T, t1, t2, t3, t4, t5, t6⟩ := iv_setl (E := E) (d := e) (B := B) (S := S.sI 3 11 v) (c := c) (by omega) hG q l13
  have hc : iv_cP S T (mm_u (S.A 102) 1 v) := by
    refine ⟨t2, t3, t4, fun x k hx => ?_, fun x hx => t6 x (by omega), t6 8 (by omega), t6 9 (by omega)⟩
    rw [t5 x k (by omega)]
    exact mm_gI_ne (by omega)
  obtain ⟨U, u1, u2⟩ := iv_note (E := E) (d := e) (B := B) (c := c) (kd := 7) (st := 0) (ws := S.A 102 1) (by omega) h hc
  rw [mm_e139_0] at he
  simp (disch := omega) only [mm_ptP, mm_ptN, mm_br_lt, mm_br_le] at he
  rw [if_neg (by omega), if_pos (by omega), t1, mm_cV_ok, mm_e139_45] at he
  simp (disch := omega) only [mm_ptP] at he
  rw [ez, u1, mm_cV_ok] at he
  exact ⟨U, he, u2⟩
theorem iv_cZx (hd : 1 ≤ d) {v : Int} (hv : iv_n v) (h3 : ¬ (0 ≤ v ∧ v ≤ 400)) : mm_ev E d 139 [.ref (mm_ad B 0), .int (mm_i v)] (mm_hp B S c) = pp_th 1 S c B := by
  refine mm_v139 (by omega) (fun F e hF he => ?_)
  have v1 := hv.1
  have v2 := hv.2
  rw [mm_e139_0, mm_br_lt v1 v2 (by omega) (by omega), mm_br_le v1 v2 (by omega) (by omega)]
  by_cases p : v < 0
  · rw [if_pos p]; rfl
  · rw [if_neg p, if_neg (by omega)]; rfl
end
