/-! PRICES with one number changed: PINNED, WORTH -/
theorem iv_tRu {T : Int → Int} {s w v : Int} (h : pp_tR T s) (h1 : 0 ≤ w) (h2 : w < 7) (h3 : pp_ml w ≤ v) (h4 : v ≤ pp_mo w ∨ (w = 5 ∧ v ≤ 21)) : pp_tR (mm_u T (s * 7 + w) v) s := by
  unfold pp_mo at h4
  unfold pp_ml at h3
  unfold pp_tR at h ⊢
  rcases (by omega : w = 0 ∨ w = 1 ∨ w = 2 ∨ w = 3 ∨ w = 4 ∨ w = 5 ∨ w = 6) with rfl | rfl | rfl | rfl | rfl | rfl | rfl <;> simp (disch := omega) only [pp_ue] <;> simp at h3 h4 <;> omega
theorem iv_rowu {f : Int → Int} (hR : pp_RO f) {s w v : Int} (s0 : 0 ≤ s) (s1 : s < f 0) (w0 : 0 ≤ w) (w1 : w < 7) (h3 : pp_ml w ≤ v) (h4 : v ≤ pp_mo w ∨ (w = 5 ∧ v ≤ 21)) : pp_RO (mm_u f (3 + 7 * s + w) v) := by
  refine iv_row hR s0 s1 w0 w1 ?_
  have e : (fun k => mm_u f (3 + 7 * s + w) v (3 + k)) = mm_u (fun k => f (3 + k)) (s * 7 + w) v := by
    funext k
    by_cases q : k = s * 7 + w
    · rw [q, mm_u_eq, show 3 + (s * 7 + w) = 3 + 7 * s + w by omega, mm_u_eq]
    · rw [mm_u_ne q, mm_u_ne (by omega)]
  rw [e]
  exact iv_tRu (hR.2.2.2.2.1 s s0 s1) w0 w1 h3 h4
theorem iv_EQu {S T : mm_S} {a : Nat} {f : Int → Int} {s w v : Int} (h : pp_EQ S a f) (hR : pp_RO f) (e10 : T.I a 10 = S.I a 10) (e11 : T.I a 11 = S.I a 11) (e1 : T.A (a + 1) = mm_u (S.A (a + 1)) (s * 7 + w) v) (e2 : T.A (a + 2) = S.A (a + 2)) (e3 : T.A (a + 3) = S.A (a + 3)) (e4 : T.A (a + 4) = S.A (a + 4)) (s0 : 0 ≤ s) (s1 : s < f 0) (w0 : 0 ≤ w) (w1 : w < 7) (h3 : pp_ml w ≤ v) (h4 : v ≤ pp_mo w ∨ (w = 5 ∧ v ≤ 21)) : pp_EQ T a (mm_u f (3 + 7 * s + w) v) := by
  have n := hR.1
  have m := hR.2.2.1
  have e : ∀ i : Int, i ≠ 3 + 7 * s + w → mm_u f (3 + 7 * s + w) v i = f i := fun i hi => mm_u_ne hi
  obtain ⟨q0, q1, q2, q3, q4, q5, q6⟩ := h
  have g2 := e 2 (by omega)
  have gl : ∀ l : Int, 0 ≤ l → l < f 2 → mm_u f (3 + 7 * s + w) v (159 + 2 * l) = f (159 + 2 * l) ∧ mm_u f (3 + 7 * s + w) v (159 + 2 * l + 1) = f (159 + 2 * l + 1) := fun l l0 l1 => ⟨e _ (by omega), e _ (by omega)⟩
  refine ⟨by rw [e10, e 0 (by omega)]; exact q0, by rw [e11, e 1 (by omega)]; exact q1, fun t t0 t1 => ?_, fun t u t0 t1 u0 u1 => ?_, ?_, fun t i t0 t1 i0 i1 => ?_, fun t i t0 t1 i0 i1 => ?_⟩
  · rw [e3, e4, mm_sup_cg g2 gl, mm_cus_cg g2 gl]; exact q2 t t0 t1
  · rw [e 0 (by omega)] at t1
    rw [e1]
    by_cases z : t = s ∧ u = w
    · rw [z.1, z.2, mm_u_eq, mm_u_eq]
    · rw [mm_u_ne (by omega), e _ (by omega)]
      exact q3 t u t0 t1 u0 u1
  · rw [e1]; exact pp_tR_u q4 w0 w1 h3 h4
  · rw [e 0 (by omega)] at t1
    rw [e2, e _ (by omega)]; exact q5 t i t0 t1 i0 i1
  · rw [e 0 (by omega)] at t0
    rw [e2]; exact q6 t i t0 t1 i0 i1
section
variable {E : mm_E} {d B : Nat} {S : mm_S} {k : Nat}
/-- the draft changed -/
theorem iv_dr {T : mm_S} (h : iv S k) (hI : ∀ x k, iv_rI x k → T.I x k = S.I x k) (hA : ∀ x, iv_rA x → x ≠ 15 → x ≠ 24 → T.A x = S.A x) (h15 : ∀ s : Int, 0 ≤ s → s < 12 → pp_tR (T.A 15) s) (h24 : ∀ s : Int, 0 ≤ s → s < 12 → 0 ≤ T.A 24 s ∧ T.A 24 s ≤ 200) : iv T k := by
  have g : iv ((S.sA 15 (T.A 15)).sA 24 (T.A 24)) k := ⟨h.1, h.2.1, h.2.2.1, h.2.2.2.1, fun s s0 s1 => ⟨h15 s s0 s1, h24 s s0 s1, (h.2.2.2.2.1 s s0 s1).2.2⟩, h.2.2.2.2.2.1, h.2.2.2.2.2.2.1, h.2.2.2.2.2.2.2.1, h.2.2.2.2.2.2.2.2.1, h.2.2.2.2.2.2.2.2.2⟩
  refine iv_fr g hI (fun x hx => ?_)
  by_cases e6 : x = 24
  · rw [e6, mm_gs.2.2.2.2.2.2.2.2.1]
  rw [mm_gA_ne e6]
  by_cases e5 : x = 15
  · rw [e5, mm_gs.2.2.2.2.2.2.2.2.1]
  rw [mm_gA_ne e5]
  exact hA x hx e5 e6
theorem iv_pwC (h : iv S k) (hd : 6 ≤ d) {s w v : Int} (s0 : 0 ≤ s) (s1 : s < S.I 3 10) (w0 : 0 ≤ w) (w1 : w < 7) (h3 : pp_ml w ≤ v) (h4 : v ≤ pp_mo w ∨ (w = 5 ∧ v ≤ 21)) (c : mm_N) : ∃ T p, mm_ev E d 143 [.ref (mm_ad B 0), .int (mm_i s), .int (mm_i w), .int (mm_i v)] (mm_hp B S c) = mm_oI p (mm_hp B T c) ∧ iv_bp (mm_u (S.A 102) (3 + 7 * s + w) v) p ∧ iv T k ∧ T.A 102 = S.A 102 ∧ T.I 3 10 = S.I 3 10 := by
  obtain ⟨e, rfl⟩ : ∃ e, d = e + 1 := ⟨d - 1, by omega⟩
  obtain ⟨F, hF, he⟩ := mm_w143 E e B S c (mm_i s) (mm_i w) (mm_i v)
  have hn := iv_nn h
  have eN := iv_N h
  have hR := h.2.1.1
  obtain ⟨T, t1, t2, t3, t4, t5⟩ := iv_draft (E := E) (d := e) (B := B) h (by omega) c
  have hG := iv_rowu hR s0 (by omega) w0 w1 h3 h4
  have q := iv_EQu (S := T.sA 16 (S.A 5)) (T := (T.sA 15 (mm_u (T.A 15) (s * 7 + w) v)).sA 16 (S.A 5)) (a := 14) t3 hR rfl rfl rfl rfl rfl rfl s0 (by omega) w0 w1 h3 h4
  have qN : pp_NK (T.sA 15 (mm_u (T.A 15) (s * 7 + w) v)) 14 := pp_EQ_NK (S := (T.sA 15 (mm_u (T.A 15) (s * 7 + w) v)).sA 16 (S.A 5)) (a := 14) hG q
  have qG : pp_GK (T.sA 15 (mm_u (T.A 15) (s * 7 + w) v)) 14 := pp_EQ_GK (S := (T.sA 15 (mm_u (T.A 15) (s * 7 + w) v)).sA 16 (S.A 5)) (a := 14) hG q
  obtain ⟨ord, fl, wd, L, g1, g2⟩ := c_settle (E := E) (d := e) (B := B) (c := c) (S := T.sA 15 (mm_u (T.A 15) (s * 7 + w) v)) (a := 14) (by omega) (by omega) qN qG t2.2.2.2.2.2.2.2
  obtain ⟨U, hU⟩ : ∃ U, U = ((((((T.sA 15 (mm_u (T.A 15) (s * 7 + w) v)).sI 14 12 ((T.sA 15 (mm_u (T.A 15) (s * 7 + w) v)).I 14 12 + 1)).sA (14 + 7) ord).sA (14 + 8) fl).sA (14 + 9) wd).sA (14 + 10) L) := ⟨_, rfl⟩
  rw [← hU] at g2
  have uT : pp_NT U 14 := by rw [hU]; exact ⟨qN, qG, g1⟩
  have uE : pp_EQ (U.sA 16 (S.A 5)) 14 (mm_u (S.A 102) (3 + 7 * s + w) v) := by rw [hU]; exact q
  have uI : ∀ x k, x ≠ 14 → U.I x k = S.I x k := fun x k hx => by
    rw [hU, ← t4 x k hx]
    show (T.sI 14 12 _).I x k = _
    exact mm_gI_ne (by omega)
  have uA : ∀ x, ¬ (15 ≤ x ∧ x ≤ 24) → U.A x = S.A x := fun x hx => by
    rw [hU, mm_gA_ne (by omega), mm_gA_ne (by omega), mm_gA_ne (by omega), mm_gA_ne (by omega)]
    show (T.sA 15 _).A x = _
    rw [mm_gA_ne (by omega)]
    exact t5 x hx
  obtain ⟨V, p, v1, v2, v3⟩ := iv_cL14 (E := E) (d := e) (B := B) (S := U) (by omega) hG uE uT c
  have iU : iv U k := iv_dr h (fun x k hx => uI x k (by unfold iv_rI at hx; omega)) (fun x hx x1 x2 => uA x (by unfold iv_rA at hx; omega)) uT.1.2.2.2.2 uT.2.2.2.2.2.2.2
  rw [mm_e143_0] at he
  simp (disch := omega) only [mm_ptP] at he
  rw [t1, mm_cV_ok] at he
  simp (disch := omega) only [mm_ptP] at he
  rw [c_tell (by omega) (by omega) s0 (by omega) w0 w1, mm_cV_ok] at he
  simp (disch := omega) only [mm_ptP] at he
  rw [g2, mm_cV_ok] at he
  simp (disch := omega) only [mm_ptP] at he
  rw [v3, mm_cI_ok] at he
  refine ⟨V, p, he, v2, iv_FR iU v1, ?_, ?_⟩
  · rw [v1.2.1 102 (by omega) (by omega)]; exact uA 102 (by omega)
  · rw [v1.1]; exact uI 3 10 (by omega)
theorem iv_pwM (h : iv S k) (hd : 20 ≤ d) {s w v : Int} (s0 : 0 ≤ s) (s1 : s < S.I 3 10) (w0 : 0 ≤ w) (w1 : w < 7) (h3 : pp_ml w ≤ v) (h4 : v ≤ pp_mo w ∨ (w = 5 ∧ v ≤ 21)) (c : mm_N) : ∃ T p, mm_ev E d 205 [.ref (mm_ad B 101), .int (mm_i s), .int (mm_i w), .int (mm_i v)] (mm_hp B S c) = mm_oI p (mm_hp B T c) ∧ iv_bp (mm_u (S.A 102) (3 + 7 * s + w) v) p ∧ (p = -1 ∨ (0 ≤ p ∧ p < 1000000000)) ∧ iv T k ∧ T.L = S.L ∧ T.I 101 0 = S.I 101 0 ∧ T.A 102 = S.A 102 := by
  obtain ⟨e, rfl⟩ : ∃ e, d = e + 1 := ⟨d - 1, by omega⟩
  obtain ⟨F, hF, he⟩ := mm_w205 E e B S c (mm_i s) (mm_i w) (mm_i v)
  have hn := iv_nn h
  have eN := iv_N h
  have hR := h.2.1.1
  have hG := iv_rowu hR s0 (by omega) w0 w1 h3 h4
  obtain ⟨U, p, u1, u2, u3, u4⟩ := iv_mL (E := E) (d := e) (B := B) (S := S.sA 102 (mm_u (S.A 102) (3 + 7 * s + w) v)) (f := mm_u (S.A 102) (3 + 7 * s + w) v) (by omega) (mm_gs.2.2.2.2.2.2.2.2.1 _ _ _) hG c
  have u102 : U.A 102 = mm_u (S.A 102) (3 + 7 * s + w) v := by rw [u1.2.2.2 102 (by omega)]; exact mm_gs.2.2.2.2.2.2.2.2.1 _ _ _
  have back : mm_u (mm_u (S.A 102) (3 + 7 * s + w) v) (3 + 7 * s + w) (S.A 102 (3 + 7 * s + w)) = S.A 102 := by
    funext i
    by_cases q : i = 3 + 7 * s + w
    · rw [q, mm_u_eq]
    · rw [mm_u_ne q, mm_u_ne q]
  rw [mm_e205_0] at he
  simp (disch := omega) only [mm_ptM, mm_hm] at he
  rw [u4, mm_cI_ok, mm_e205_33] at he
  simp (disch := omega) only [mm_ptM] at he
  rw [u102, back] at he
  refine ⟨U.sA 102 (S.A 102), p, he, u2, u3, iv_fr h (fun x k hx => ?_) (fun x hx => ?_), u1.2.2.1, ?_, mm_gs.2.2.2.2.2.2.2.2.1 _ _ _⟩
  · exact u1.1 x k (by unfold iv_rI at hx; omega)
  · by_cases q : x = 102
    · rw [q]; exact mm_gs.2.2.2.2.2.2.2.2.1 _ _ _
    · rw [mm_gA_ne q, u1.2.2.2 x (by unfold iv_rA at hx; omega), mm_gA_ne q]
  · exact u1.1 101 0 (by omega)
-- pinned
theorem i_pinned (h : iv S k) (hd : 21 ≤ d) {s t : Int} (hs : iv_n s) (ht : iv_n t) : iv_ok E B d S k 122 [.ref (mm_ad B 0), .int (mm_i s), .int (mm_i t)] 211 [.ref (mm_ad B 101), .int (mm_i s), .int (mm_i t)] iv_c2 := by
  obtain ⟨e, rfl⟩ : ∃ e, d = e + 1 := ⟨d - 1, by omega⟩
  have nn := iv_nn h
  have t1 := ht.1
  have t2 := ht.2
  by_cases p : 0 ≤ s ∧ s < S.I 3 10
  · by_cases q : 0 ≤ t ∧ t ≤ 119
    · intro c
      have m6 : pp_ml 6 = -1 := by decide
      have o6 : pp_mo 6 = 119 := by decide
      have h3 : pp_ml 6 ≤ t := by omega
      have h4 : t ≤ pp_mo 6 ∨ ((6 : Int) = 5 ∧ t ≤ 21) := Or.inl (by omega)
      obtain ⟨T, a, c1, c2, c3, c4, c5⟩ := iv_pwC (E := E) (d := e) (B := B) h (by omega) p.1 p.2 (by omega) (by omega) h3 h4 c
      refine ⟨T, Or.inl ⟨a, mm_v122 (by omega) (fun F e' hF he => ?_), fun o => ?_⟩⟩
      · obtain rfl : e' = e := by omega
        rw [mm_e122_0, iv_CS h (by omega) hs, if_pos p, c_checkTime (by omega) t1 t2, if_pos (by omega), mm_cV_ok, c1, mm_cI_ok]
      · have i1 := iv_sL c3 o
        obtain ⟨U, b, d1, d2, d3, d4, d5, d6, d7⟩ := iv_pwM (E := E) (d := e) (B := B) (S := (T.sL 123 o).sI 101 0 0) (s := s) (w := 6) (v := t) (iv_sc i1 0) (by omega) p.1 (by show s < T.I 3 10; omega) (by omega) (by omega) h3 h4 c
        have d2 : iv_bp (mm_u (T.A 102) (3 + 7 * s + 6) t) b := d2
        rw [c4] at d2
        refine ⟨U, mm_v211 (by omega) (fun F e' hF he => ?_), by rw [d6]; exact mm_gs.1 _ _ _ _, by rw [d5]; simp only [mm_gs], iv_up d4 (by omega)⟩
        obtain rfl : e' = e := by omega
        rw [mm_e211_0, iv_MS0 i1 (by omega) hs, if_pos (show 0 ≤ s ∧ s < (T.sL 123 o).I 3 10 from ⟨p.1, by show s < T.I 3 10; omega⟩), iv_MI (by omega) ht (by omega) (by omega), if_pos q]
        simp (disch := omega) only [mm_ptM, mm_gs, mm_br_le]
        rw [if_pos (by omega), d1, mm_cI_ok, iv_bp_one c2 d2]
    · refine iv_thr h 1 (by decide) (fun c => mm_v122 (by omega) (fun F e hF he => ?_)) (fun c => ⟨0, mm_v211 (by omega) (fun F e hF he => ?_)⟩)
      · rw [mm_e122_0, iv_CS h (by omega) hs, if_pos p, c_checkTime (by omega) t1 t2, if_neg (by omega), iv_Vth]
      · rw [mm_e211_0, iv_MS0 h (by omega) hs, if_pos p, iv_MI (by omega) ht (by omega) (by omega), if_neg q]
        simp (disch := omega) only [mm_ptM, mm_gs, mm_br_le]
        rw [if_neg (by omega)]; rfl
  · refine iv_thr h 0 (by decide) (fun c => mm_v122 (by omega) (fun F e hF he => ?_)) (fun c => ⟨0, mm_v211 (by omega) (fun F e hF he => ?_)⟩)
    · rw [mm_e122_0, iv_CS h (by omega) hs, if_neg p]
    · rw [mm_e211_0, iv_MS0 h (by omega) hs, if_neg p]
      simp (disch := omega) only [mm_ptM, mm_gs, mm_br_le]
      rw [if_neg (by omega)]; rfl
end
