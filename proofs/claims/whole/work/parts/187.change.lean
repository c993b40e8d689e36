/-! CHANGE, PIN -/
section
variable {E : mm_E} {d B : Nat} {S : mm_S} {k : Nat} {c : mm_N}
theorem m_mostOf (hd : 1 ≤ d) {w : Int} (w0 : 0 ≤ w) (w1 : w < 7) : mm_ev E d 172 [.int (mm_i w)] (mm_hp B S c) = mm_oI (if w = 6 then 400 else pp_mo w) (mm_hp B S c) := by
  refine mm_v172 (by omega) (fun F e hF he => ?_)
  rw [mm_e172_0]
  simp (disch := omega) only [mm_br_eq]
  rcases (by omega : w = 0 ∨ w = 1 ∨ w = 2 ∨ w = 3 ∨ w = 4 ∨ w = 5 ∨ w = 6) with rfl | rfl | rfl | rfl | rfl | rfl | rfl <;> rfl
/-- the model's row, one number of it changed -/
theorem iv_mU {T U : mm_S} {i v w s ws : Int} (h : iv S k) (hc : iv_cA S T (mm_u (S.A 102) i v) w s ws) (o : Int → Int) {P : Int → Int} (p1 : iv_p1 S P) (p2 : iv_p2 S P) (hU : U = ((((T.sL 123 o).sI 101 0 0).sI 101 4 (min (S.I 36 3 + 1) 20)).sA 104 P).sA 102 (mm_u (S.A 102) i v)) (hi : i ≠ 0) (hR : pp_RO (mm_u (S.A 102) i v)) (hst : iv_st w s ws (mm_u (S.A 102) i v) (S.A 102)) (h2 : iv_R2 (mm_u (S.A 102) i v)) : U.I 101 0 = 0 ∧ U.L 123 = o ∧ iv U (k + 1) := by
  have eN := iv_N h
  have c5 := hc.2.2.2.2.1
  refine ⟨by rw [hU]; show (((T.sL 123 o).sI 101 0 0).sI 101 4 _).I 101 0 = 0; rw [mm_gI_ne (by omega)]; exact mm_gs.1 _ _ _ _, by rw [hU]; rfl, iv_aok h hc (fun x k hx => ?_) (fun x x2 x4 x5 x6 => ?_) (by rw [hU]; exact mm_gs.1 _ _ _ _) (by rw [hU]; exact p1) (by rw [hU]; exact p2) (by rw [hU]; rfl) hR hst h2 ?_⟩
  · rw [hU]
    show (((T.sL 123 o).sI 101 0 0).sI 101 4 _).I x k = _
    rw [mm_gI_ne (by omega), mm_gI_ne (by omega)]
    rfl
  · rw [hU, mm_gA_ne x2, mm_gA_ne x4]
    rfl
  · rw [mm_u_ne (fun z => hi z.symm), eN]
    have a5 : U.A 105 = S.A 105 := by rw [hU]; exact c5 105 (by omega) (by omega)
    have a6 : U.A 106 = S.A 106 := by rw [hU]; exact c5 106 (by omega) (by omega)
    rw [a5, a6]
    exact h.2.2.1
theorem iv_stT {f : Int → Int} {s w v : Int} (hR : pp_RO f) (h2 : iv_R2 f) (s0 : 0 ≤ s) (s1 : s < f 0) (w0 : 0 ≤ w) (w1 : w < 7) : iv_st w s (f (3 + 7 * s + w)) (mm_u f (3 + 7 * s + w) v) f := by
  have q := hR.2.2.2.2.1 s s0 s1
  have p := h2 s s0 s1
  refine Or.inl ⟨⟨w0, w1⟩, ⟨s0, by rw [mm_u_ne (by omega)]; exact s1⟩, ?_, fun i i0 i1 => ?_⟩
  · unfold pp_tR at q
    dsimp only at q
    unfold pp_ml pp_mo
    rcases (by omega : w = 0 ∨ w = 1 ∨ w = 2 ∨ w = 3 ∨ w = 4 ∨ w = 5 ∨ w = 6) with rfl | rfl | rfl | rfl | rfl | rfl | rfl
    · rw [show 3 + (s * 7 + 0) = 3 + 7 * s by omega] at q
      simp; omega
    · rw [show 3 + (s * 7 + 1) = 3 + 7 * s + 1 by omega] at q
      simp; omega
    · rw [show 3 + (s * 7 + 2) = 3 + 7 * s + 2 by omega] at q
      simp; omega
    · rw [show 3 + (s * 7 + 3) = 3 + 7 * s + 3 by omega] at q
      simp; omega
    · rw [show 3 + (s * 7 + 4) = 3 + 7 * s + 4 by omega] at q
      simp; omega
    · rw [show 3 + (s * 7 + 5) = 3 + 7 * s + 5 by omega] at q
      simp; omega
    · rw [show 3 + (s * 7 + 6) = 3 + 7 * s + 6 by omega] at q
      simp; omega
  · by_cases z : i = 3 + 7 * s + w
    · rw [if_pos z, z]
    · rw [if_neg z, mm_u_ne z]
theorem iv_R2u {f : Int → Int} {s w v : Int} (h2 : iv_R2 f) (s0 : 0 ≤ s) (w0 : 0 ≤ w) (w1 : w < 7) (h4 : v ≤ pp_mo w) : iv_R2 (mm_u f (3 + 7 * s + w) v) := fun t t0 t1 => by
  rw [mm_u_ne (by omega)] at t1
  by_cases z : 3 + 7 * t + 5 = 3 + 7 * s + w
  · have : w = 5 := by omega
    subst this
    rw [z, mm_u_eq]
    exact h4
  · rw [mm_u_ne z]
    exact h2 t t0 t1
-- the model's change
theorem m_changeX {V : mm_S} (s w v x : Int) (o4 o5 : Option Value) (cl : mm_F) (m : Nat) (x1 : 0 < x) (x2 : x ≤ 2) : mm_r173_55 E cl (m + 1) (mm_ad B 101) (mm_i s) (mm_i w) (mm_i v) o4 o5 (mm_ad B 101) (mm_i x) (mm_hp B V c) = mm_oI 0 (mm_hp B (V.sI 101 0 x) c) := by
  rw [mm_e173_55]
  simp (disch := omega) only [mm_ptM, mm_gs, mm_br_le]
  rw [if_neg (by omega)]
theorem m_changeO {V : mm_S} {e m : Nat} (s w v : Int) (o4 o5 : Option Value) (h : iv S k) (v4 : V.I 101 4 = S.I 101 4) (v2 : V.A 102 = S.A 102) (v3 : V.A 104 = S.A 104) (he : 1 ≤ e) (w0 : 0 ≤ w) (w1 : w < 7) (s0 : w = 6 ∨ (0 ≤ s ∧ s < 12)) : ∃ P, iv_p1 S P ∧ iv_p2 S P ∧ mm_r173_55 E (mm_ev E e) (m + 2) (mm_ad B 101) (mm_i s) (mm_i w) (mm_i v) o4 o5 (mm_ad B 101) (mm_i 0) (mm_hp B V c) = mm_oI (S.A 102 (if w = 6 then 1 else 3 + 7 * s + w)) (mm_hp B ((((V.sI 101 0 0).sI 101 4 (min (S.I 36 3 + 1) 20)).sA 104 P).sA 102 (mm_u (S.A 102) (if w = 6 then 1 else 3 + 7 * s + w) v)) c) := by
  obtain ⟨P, p1, p2, p3⟩ := iv_keep (E := E) (d := e) (B := B) (c := c) (V := V.sI 101 0 0) he h (by rw [mm_gI_ne (by omega)]; exact v4) v2 v3
  refine ⟨P, p1, p2, ?_⟩
  rw [mm_e173_55]
  simp (disch := omega) only [mm_ptM, mm_gs, mm_br_le, mm_br_eq]
  rw [if_pos (by omega), p3, mm_cV_ok]
  by_cases w6 : w = 6
  · rw [if_pos w6, if_pos w6]
    simp (disch := omega) only [mm_ptM, mm_e173_100, mm_gs, mm_gA_ne]
    rw [v2]
  · rw [if_neg w6, if_neg w6]
    simp (disch := omega) only [mm_hm]
    simp (disch := omega) only [mm_ptM, mm_e173_100, mm_gs, mm_gA_ne]
    rw [v2]
theorem m_changeV {V : mm_S} {s w v : Int} (hd : 3 ≤ d) (h : iv S k) (v4 : V.I 101 4 = S.I 101 4) (v2 : V.A 102 = S.A 102) (v3 : V.A 104 = S.A 104) (hs : iv_n s) (hv : iv_n v) (w0 : 0 ≤ w) (w1 : w < 7) (s0 : w = 6 ∨ (0 ≤ s ∧ s < S.I 3 10)) (h3 : (if w = 5 then -1 else 0) ≤ v) (h4 : v ≤ if w = 6 then 400 else pp_mo w) : ∃ P, iv_p1 S P ∧ iv_p2 S P ∧ mm_ev E d 173 [.ref (mm_ad B 101), .int (mm_i s), .int (mm_i w), .int (mm_i v)] (mm_hp B V c) = mm_oI (S.A 102 (if w = 6 then 1 else 3 + 7 * s + w)) (mm_hp B ((((V.sI 101 0 0).sI 101 4 (min (S.I 36 3 + 1) 20)).sA 104 P).sA 102 (mm_u (S.A 102) (if w = 6 then 1 else 3 + 7 * s + w) v)) c) := by
  have nn := iv_nn h
  have eN := iv_N h
  have vN : V.A 102 0 = S.I 3 10 := by rw [v2]; exact eN
  obtain ⟨e, rfl⟩ : ∃ e, d = e + 1 := ⟨d - 1, by omega⟩
  have mo : 0 ≤ (if w = 6 then 400 else pp_mo w) ∧ (if w = 6 then 400 else pp_mo w) ≤ 9999 := by
    rcases (by omega : w = 0 ∨ w = 1 ∨ w = 2 ∨ w = 3 ∨ w = 4 ∨ w = 5 ∨ w = 6) with rfl | rfl | rfl | rfl | rfl | rfl | rfl <;> decide
  obtain ⟨M, hM⟩ : ∃ M, M = (if w = 6 then 400 else pp_mo w) := ⟨_, rfl⟩
  rw [← hM] at h4 mo
  obtain ⟨F, hF, he⟩ := mm_w173 E e B V c (mm_i s) (mm_i w) (mm_i v)
  obtain ⟨P, p1, p2, p3⟩ := m_changeO (E := E) (B := B) (c := c) (V := V) (e := e) (m := F + 97) s w v none none h v4 v2 v3 (by omega) w0 w1 (by omega)
  refine ⟨P, p1, p2, ?_⟩
  rw [he, mm_e173_0, iv_MI (by omega) ⟨by omega, by omega⟩ (by omega) (by omega), if_pos (by omega), mm_br_le (by omega) (by omega) (by omega) (by omega), mm_br_eq (by omega) (by omega) (by omega) (by omega)]
  by_cases w6 : w = 6
  · rw [if_neg (by omega)] at h3
    rw [if_pos (show 6 ≤ w by omega), if_neg (show ¬ w = 5 by omega), m_mostOf (by omega) w0 w1, ← hM, mm_cI_ok, iv_MI (by omega) hv (by omega) (by omega), if_pos (by omega)]
    exact p3
  · rw [if_neg (show ¬ 6 ≤ w by omega), iv_MSr (by omega) (by omega) hs, if_pos (by omega)]
    by_cases w5 : w = 5
    · rw [if_pos w5] at h3
      rw [mm_br_eq (by omega) (by omega) (by omega) (by omega), if_pos w5, m_mostOf (by omega) w0 w1, ← hM, mm_cI_ok, iv_MI (by omega) hv (by omega) (by omega), if_pos (by omega)]
      exact p3
    · rw [if_neg w5] at h3
      rw [mm_br_eq (by omega) (by omega) (by omega) (by omega), if_neg w5, m_mostOf (by omega) w0 w1, ← hM, mm_cI_ok, iv_MI (by omega) hv (by omega) (by omega), if_pos (by omega)]
      exact p3
theorem m_changeN {V : mm_S} {s w v : Int} (hd : 3 ≤ d) (vN : 0 ≤ V.A 102 0 ∧ V.A 102 0 ≤ 12) (hs : iv_n s) (hw : iv_n w) (hv : iv_n v) (hx : ¬ ((0 ≤ w ∧ w < 7) ∧ (w = 6 ∨ (0 ≤ s ∧ s < V.A 102 0)))) : mm_ev E d 173 [.ref (mm_ad B 101), .int (mm_i s), .int (mm_i w), .int (mm_i v)] (mm_hp B V c) = mm_oI 0 (mm_hp B (V.sI 101 0 1) c) := by
  have w1 := hw.1
  have w2 := hw.2
  refine mm_v173 (by omega) (fun F e hF he => ?_)
  rw [mm_e173_0, iv_MI (by omega) hw (by omega) (by omega)]
  by_cases p : 0 ≤ w ∧ w ≤ 6
  · rw [if_pos p, mm_br_le (by omega) (by omega) w1 w2, if_neg (by omega), iv_MSr (by omega) (by omega) hs, if_neg (by omega)]
    exact m_changeX s w v 1 none none _ _ (by omega) (by omega)
  · rw [if_neg p]
    exact m_changeX s w v 1 none none _ _ (by omega) (by omega)
theorem m_changeW {V : mm_S} {s w v : Int} (hd : 3 ≤ d) (vN : 0 ≤ V.A 102 0 ∧ V.A 102 0 ≤ 12) (hs : iv_n s) (hv : iv_n v) (w0 : 0 ≤ w) (w1 : w < 7) (s0 : w = 6 ∨ (0 ≤ s ∧ s < V.A 102 0)) (hx : ¬ ((if w = 5 then -1 else 0) ≤ v ∧ v ≤ if w = 6 then 400 else pp_mo w)) : mm_ev E d 173 [.ref (mm_ad B 101), .int (mm_i s), .int (mm_i w), .int (mm_i v)] (mm_hp B V c) = mm_oI 0 (mm_hp B (V.sI 101 0 2) c) := by
  have mo : 0 ≤ (if w = 6 then 400 else pp_mo w) ∧ (if w = 6 then 400 else pp_mo w) ≤ 9999 := by
    rcases (by omega : w = 0 ∨ w = 1 ∨ w = 2 ∨ w = 3 ∨ w = 4 ∨ w = 5 ∨ w = 6) with rfl | rfl | rfl | rfl | rfl | rfl | rfl <;> decide
  obtain ⟨M, hM⟩ : ∃ M, M = (if w = 6 then 400 else pp_mo w) := ⟨_, rfl⟩
  rw [← hM] at hx mo
  refine mm_v173 (by omega) (fun F e hF he => ?_)
  rw [mm_e173_0, iv_MI (by omega) ⟨by omega, by omega⟩ (by omega) (by omega), if_pos (by omega), mm_br_le (by omega) (by omega) (by omega) (by omega), mm_br_eq (by omega) (by omega) (by omega) (by omega)]
  by_cases w6 : w = 6
  · rw [if_neg (show ¬ w = 5 by omega)] at hx
    rw [if_pos (show 6 ≤ w by omega), if_neg (show ¬ w = 5 by omega), m_mostOf (by omega) w0 w1, ← hM, mm_cI_ok, iv_MI (by omega) hv (by omega) (by omega), if_neg (by omega)]
    exact m_changeX s w v 2 none none _ _ (by omega) (by omega)
  · rw [if_neg (show ¬ 6 ≤ w by omega), iv_MSr (by omega) (by omega) hs, if_pos (by omega)]
    by_cases w5 : w = 5
    · rw [if_pos w5] at hx
      rw [mm_br_eq (by omega) (by omega) (by omega) (by omega), if_pos w5, m_mostOf (by omega) w0 w1, ← hM, mm_cI_ok, iv_MI (by omega) hv (by omega) (by omega), if_neg (by omega)]
      exact m_changeX s w v 2 none none _ _ (by omega) (by omega)
    · rw [if_neg w5] at hx
      rw [mm_br_eq (by omega) (by omega) (by omega) (by omega), if_neg w5, m_mostOf (by omega) w0 w1, ← hM, mm_cI_ok, iv_MI (by omega) hv (by omega) (by omega), if_neg (by omega)]
      exact m_changeX s w v 2 none none _ _ (by omega) (by omega)
theorem i_change (h : iv S k) (hE : pp_OE E B) (hd : 6 ≤ d) {s w v : Int} (hs : iv_n s) (hw : iv_n w) (hv : iv_n v) : iv_ok E B d S k 109 [.ref (mm_ad B 0), .int (mm_i s), .int (mm_i w), .int (mm_i v)] 173 [.ref (mm_ad B 101), .int (mm_i s), .int (mm_i w), .int (mm_i v)] iv_c2 := by
  have nn := iv_nn h
  have eN := iv_N h
  have w1 := hw.1
  have w2 := hw.2
  obtain ⟨e, rfl⟩ : ∃ e, d = e + 1 := ⟨d - 1, by omega⟩
  have hR := h.2.1.1
  have h2 := h.2.2.2.2.2.2.2.2.2.2.1
  have ml : 0 ≤ w → w < 7 → w ≠ 6 → pp_ml w = if w = 5 then -1 else 0 := fun a b c => by
    unfold pp_ml
    by_cases z : w = 5
    · rw [if_pos (Or.inl z), if_pos z]
    · rw [if_neg (by omega), if_neg z]
  by_cases p : 0 ≤ w ∧ w < 7
  · by_cases w6 : w = 6
    · by_cases q : 0 ≤ v ∧ v ≤ 400
      · intro c
        obtain ⟨T, t1, t2⟩ := iv_cZ (E := E) (d := e) (B := B) (c := c) h (by omega) q.1 q.2
        have c4 := t2.2.2.2.1
        have c5 := t2.2.2.2.2.1
        refine ⟨T, Or.inl ⟨S.A 102 1, mm_v109 (by omega) (fun F e' hF he => ?_), fun o => ?_⟩⟩
        · obtain rfl : e' = e := by omega
          rw [mm_e109_0, iv_CW (by omega) hw (by omega), if_pos p, mm_br_eq w1 w2 (by omega) (by omega), if_pos w6, t1, mm_cI_ok]
        · obtain ⟨P, p1, p2, p3⟩ := m_changeV (E := E) (d := e + 1) (B := B) (c := c) (V := T.sL 123 o) (s := s) (w := w) (v := v) (by omega) h (c4 101 4 (by omega) (by omega)) (c5 102 (by omega) (by omega)) (c5 104 (by omega) (by omega)) hs hv p.1 p.2 (Or.inl w6) (by rw [if_neg (by omega)]; omega) (by rw [if_pos w6]; omega)
          rw [if_pos w6] at p3
          have hG : pp_RO (mm_u (S.A 102) 1 v) := pp_RO_same hR (mm_u_ne (by omega)) (by rw [mm_u_eq]; omega) (mm_u_ne (by omega)) (fun l l0 l1 => ⟨mm_u_ne (by omega), mm_u_ne (by omega)⟩) (fun t t0 t1 => by
            have q := hR.2.2.2.2.1 t t0 t1
            unfold pp_tR at q ⊢
            dsimp only at q ⊢
            rw [mm_u_ne (by omega), mm_u_ne (by omega), mm_u_ne (by omega), mm_u_ne (by omega), mm_u_ne (by omega), mm_u_ne (by omega), mm_u_ne (by omega)]
            exact q)
          exact ⟨_, p3, iv_mU h t2 o p1 p2 rfl (by omega) hG (Or.inr (Or.inl ⟨rfl, hR.2.1, fun i i0 i1 => by
            by_cases z : i = 1
            · rw [if_pos z, z]
            · rw [if_neg z, mm_u_ne z]⟩)) (fun t t0 t1 => by
            rw [mm_u_ne (by omega)] at t1
            rw [mm_u_ne (by omega)]
            exact h2 t t0 t1)⟩
      · refine iv_thr h 1 (by decide) (fun c => mm_v109 (by omega) (fun F e' hF he => ?_)) (fun c => ⟨0, ?_⟩)
        · rw [mm_e109_0, iv_CW (by omega) hw (by omega), if_pos p, mm_br_eq w1 w2 (by omega) (by omega), if_pos w6, iv_cZx (by omega) hv q, iv_Ith]
        · exact m_changeW (by omega) (by omega) hs hv p.1 p.2 (Or.inl w6) (by rw [if_neg (by omega), if_pos w6]; exact q)
    · by_cases ps : 0 ≤ s ∧ s < S.I 3 10
      · by_cases q : pp_ml w ≤ v ∧ v ≤ pp_mo w
        · intro c
          obtain ⟨T, t1, t2⟩ := iv_cT (E := E) (d := e) (B := B) (c := c) h hE (by omega) ps.1 ps.2 p.1 p.2 hv q.1 q.2
          have c4 := t2.2.2.2.1
          have c5 := t2.2.2.2.2.1
          refine ⟨T, Or.inl ⟨S.A 102 (3 + 7 * s + w), mm_v109 (by omega) (fun F e' hF he => ?_), fun o => ?_⟩⟩
          · obtain rfl : e' = e := by omega
            rw [mm_e109_0, iv_CW (by omega) hw (by omega), if_pos p, mm_br_eq w1 w2 (by omega) (by omega), if_neg w6, iv_CS h (by omega) hs, if_pos ps, t1, mm_cI_ok]
          · obtain ⟨P, p1, p2, p3⟩ := m_changeV (E := E) (d := e + 1) (B := B) (c := c) (V := T.sL 123 o) (s := s) (w := w) (v := v) (by omega) h (c4 101 4 (by omega) (by omega)) (c5 102 (by omega) (by omega)) (c5 104 (by omega) (by omega)) hs hv p.1 p.2 (Or.inr ps) (by rw [← ml p.1 p.2 w6]; exact q.1) (by rw [if_neg w6]; exact q.2)
            rw [if_neg w6] at p3
            exact ⟨_, p3, iv_mU h t2 o p1 p2 rfl (by omega) (iv_rowu hR ps.1 (by omega) p.1 p.2 q.1 (Or.inl q.2)) (iv_stT hR h2 ps.1 (by omega) p.1 p.2) (iv_R2u h2 ps.1 p.1 p.2 q.2)⟩
        · refine iv_thr h 1 (by decide) (fun c => mm_v109 (by omega) (fun F e' hF he => ?_)) (fun c => ⟨0, ?_⟩)
          · rw [mm_e109_0, iv_CW (by omega) hw (by omega), if_pos p, mm_br_eq w1 w2 (by omega) (by omega), if_neg w6, iv_CS h (by omega) hs, if_pos ps, iv_cTx h hE (by omega) p.1 p.2 hv q, iv_Ith]
          · exact m_changeW (by omega) (by omega) hs hv p.1 p.2 (Or.inr (by rw [eN]; exact ps)) (by rw [← ml p.1 p.2 w6, if_neg w6]; exact q)
      · refine iv_thr h 0 (by decide) (fun c => mm_v109 (by omega) (fun F e' hF he => ?_)) (fun c => ⟨0, ?_⟩)
        · rw [mm_e109_0, iv_CW (by omega) hw (by omega), if_pos p, mm_br_eq w1 w2 (by omega) (by omega), if_neg w6, iv_CS h (by omega) hs, if_neg ps]
        · exact m_changeN (by omega) (by omega) hs hw hv (by rw [eN]; omega)
  · refine iv_thr h 0 (by decide) (fun c => mm_v109 (by omega) (fun F e' hF he => ?_)) (fun c => ⟨0, ?_⟩)
    · rw [mm_e109_0, iv_CW (by omega) hw (by omega), if_neg p]
    · exact m_changeN (by omega) (by omega) hs hw hv (by omega)
end
