/-! DAY, DAYS: class and model -/
section
variable {E : mm_E} {d B : Nat} {S : mm_S} {k : Nat}
theorem iv_94 {T : mm_S} (h : iv S k) (hI : ∀ x k, iv_rI x k → T.I x k = S.I x k) (hA : ∀ x, iv_rA x → x ≠ 94 → T.A x = S.A x) (h0 : T.A 94 0 = 0) : iv T k := by
  have g : iv (S.sA 94 (T.A 94)) k := ⟨h.1, h.2.1, h.2.2.1, h.2.2.2.1, h.2.2.2.2.1, h.2.2.2.2.2.1, h.2.2.2.2.2.2.1, h0, h.2.2.2.2.2.2.2.2.1, h.2.2.2.2.2.2.2.2.2⟩
  refine iv_fr g hI (fun x hx => ?_)
  by_cases e6 : x = 94
  · rw [e6, mm_gs.2.2.2.2.2.2.2.2.1]
  rw [mm_gA_ne e6]
  exact hA x hx e6
noncomputable def iv_bs (S : mm_S) (s : Int) : Int := pp_nd S 3 s * S.A (3 + 8) s + pp_rt (pp_qd (S.I 3 11) (S.A (3 + 9) s) (pp_nd S 3 s))
noncomputable def iv_oh (S : mm_S) (s x : Int) : Int := pp_oh (pp_cd S 3 s) (iv_bs S s) (S.A (3 + 5) s) (pp_nd S 3 s) x
def iv_BF (S : mm_S) (s : Int) (f : Int → Int) : Prop := ∀ i : Int, 0 ≤ i → i < 41 → f i = i * S.A (3 + 8) s + pp_rt (pp_qd (S.I 3 11) (S.A (3 + 9) s) i)
theorem iv_b (h : iv S k) {s n : Int} (s0 : 0 ≤ s) (s1 : s < S.I 3 10) (n0 : 0 ≤ n) (n1 : n ≤ 128) : 0 ≤ n * S.A (3 + 8) s + pp_rt (pp_qd (S.I 3 11) (S.A (3 + 9) s) n) ∧ n * S.A (3 + 8) s + pp_rt (pp_qd (S.I 3 11) (S.A (3 + 9) s) n) ≤ 1000000 := by
  have hT := h.2.1.2.2
  have z := hT.1.2.1
  have wd := pp_NT_wd hT s0 s1
  have fl := pp_NT_fl hT s0 s1
  have b := pp_qd_b (n := n) z.1 z.2 wd.1 (by omega) n0 (by omega)
  have r := pp_rt_is b.1 b.2
  have r0 := pp_rt_nn (pp_qd (S.I 3 11) (S.A (3 + 9) s) n)
  have m1 : n * S.A (3 + 8) s ≤ 128 * 1188 := Int.mul_le_mul n1 fl.2 fl.1 (by omega)
  have m0 : 0 ≤ n * S.A (3 + 8) s := Int.mul_nonneg n0 fl.1
  omega
theorem iv_cs (h : iv S k) {s : Int} : ∀ j : Nat, j ≤ 40 → 0 ≤ pp_sm (pp_cd S 3 s) j ∧ pp_sm (pp_cd S 3 s) j ≤ 479520 := fun _ hj => pp_cs_r (iv_nn h) (iv_DM h) hj
/-- the class opens its ledger -/
theorem iv_LO (h : iv S k) (hd : 5 ≤ d) {s : Int} (s0 : 0 ≤ s) (s1 : s < S.I 3 10) (c : mm_N) : ∃ T, mm_ev E d 20 [.ref (mm_ad B 93), .ref (mm_ad B 3), .int (mm_i s)] (mm_hp B S c) = mm_oV (mm_hp B T c) ∧ iv T k ∧ T.I 3 10 = S.I 3 10 ∧ T.I 93 2 = pp_nd T 3 s ∧ T.I 93 3 = (if pp_nd T 3 s < 0 then 0 else iv_bs T s) ∧ T.I 93 4 = T.A (3 + 5) s ∧ pp_LO T (pp_cd T 3 s) := by
  obtain ⟨f, f1, f2⟩ := c_ledOpen (E := E) (d := d) (B := B) (c := c) (S := S) (a := 3) hd (by omega) h.2.1.2.2 (iv_TM h) s0 s1 h.2.2.2.2.2.2.2.1
  refine ⟨_, f2, iv_94 h (fun x k hx => ?_) (fun x hx x9 => ?_) ?_, rfl, rfl, rfl, rfl, fun j j0 j1 => ?_⟩
  · unfold iv_rI at hx
    show (((S.sI 93 2 _).sI 93 3 _).sI 93 4 _).I x k = _
    rw [mm_gI_ne (by omega), mm_gI_ne (by omega), mm_gI_ne (by omega)]
  · rw [mm_gA_ne x9]; rfl
  · rw [mm_gs.2.2.2.2.2.2.2.2.1]; exact f1 0 (by omega) (by omega)
  · rw [mm_gs.2.2.2.2.2.2.2.2.1, f1 j j0 j1]; rfl
def iv_dv (S : mm_S) (s x w V : Int) : Prop := (w = 0 → V = S.A (3 + 6) (s * 40 + x)) ∧ (w = 1 → V = pp_cd S 3 s x) ∧ (w = 2 → V = if pp_nd S 3 s < 0 then -1000000 else iv_oh S s x) ∧ (w = 3 → ∃ f, iv_BF S s f ∧ V = pp_lb (pp_bk (pp_cd S 3 s) f x) (x + 1).toNat)
theorem i_dayC (h : iv S k) (hd : 6 ≤ d) {s x w : Int} (hs : iv_n s) (hx : iv_n x) (hw : iv_n w) (p : 0 ≤ s ∧ s < S.I 3 10) (q : 0 ≤ x ∧ x < 40) (r : 0 ≤ w ∧ w < 4) (c : mm_N) : ∃ T V, mm_ev E d 125 [.ref (mm_ad B 0), .int (mm_i s), .int (mm_i x), .int (mm_i w)] (mm_hp B S c) = mm_oI V (mm_hp B T c) ∧ iv T k ∧ T.I 3 10 = S.I 3 10 ∧ iv_dv T s x w V := by
  obtain ⟨e, rfl⟩ : ∃ e, d = e + 1 := ⟨d - 1, by omega⟩
  obtain ⟨F, hF, he⟩ := mm_w125 E e B S c (mm_i s) (mm_i x) (mm_i w)
  obtain ⟨T, t1, t2, t3, t4, t5, t6, t7⟩ := iv_LO (E := E) (d := e) (B := B) h (by omega) p.1 p.2 c
  have hn := iv_nn h
  have nr := pp_nd_r t2.2.1.2.2.1 (iv_TM t2) p.1 (by omega)
  have tm := iv_TM t2 s p.1 (by omega)
  rw [mm_e125_0, iv_CS h (by omega) hs, if_pos p, c_checkDay (by omega) hx.1 hx.2, if_pos q, mm_cV_ok, iv_CW (by omega) hw (by omega), if_pos r] at he
  simp (disch := omega) only [mm_ptP] at he
  rw [t1, mm_cV_ok] at he
  simp (disch := omega) only [mm_br_eq] at he
  by_cases w0 : w = 0
  · rw [if_pos w0, mm_e125_52] at he
    simp (disch := omega) only [mm_ptP, mm_ptN, mm_hm] at he
    exact ⟨T, _, he, t2, t3, fun _ => rfl, fun z => by omega, fun z => by omega, fun z => by omega⟩
  rw [if_neg w0] at he
  by_cases w1 : w = 1
  · rw [if_pos w1, mm_e125_67] at he
    simp (disch := omega) only [mm_ptP] at he
    rw [c_calledOn (by omega) t7 (by omega) (by omega) (by omega) (by omega), mm_cI_ok] at he
    refine ⟨T, _, he, t2, t3, fun z => by omega, fun _ => ?_, fun z => by omega, fun z => by omega⟩
    rw [show (x + 1).toNat = x.toNat + 1 by omega, pp_sm, show ((x.toNat : Nat) : Int) = x by omega]
    omega
  rw [if_neg w1] at he
  by_cases w2 : w = 2
  · rw [if_pos w2, mm_e125_77] at he
    simp (disch := omega) only [mm_ptP, mm_ptL, mm_br_le] at he
    by_cases g : pp_nd T 3 s < 0
    · rw [if_neg (by omega)] at he
      refine ⟨T, _, he, t2, t3, fun z => by omega, fun z => by omega, fun _ => ?_, fun z => by omega⟩
      rw [if_pos g]
    · rw [if_neg g] at t5
      rw [if_pos (by omega), mm_e125_93] at he
      simp (disch := omega) only [mm_ptP] at he
      rw [c_onHand (by omega) t7 q.1 q.2 (by omega) (by omega), mm_cI_ok, t4, t5, t6] at he
      refine ⟨T, _, he, t2, t3, fun z => by omega, fun z => by omega, fun _ => ?_, fun z => by omega⟩
      rw [if_neg g]; rfl
  · rw [if_neg w2, mm_e125_102] at he
    simp (disch := omega) only [mm_ptP] at he
    obtain ⟨f, f1, f2⟩ := c_openBounds (E := E) (d := e) (B := B) (c := c) (S := T) (a := 3) (by omega) (by omega) t2.2.1.2.2 p.1 (show s < T.I 3 10 by omega)
    rw [f2, mm_cV_ok, mm_e125_114] at he
    simp (disch := omega) only [mm_ptP] at he
    have e95 : (T.sA 95 f).A 95 = f := mm_gs.2.2.2.2.2.2.2.2.1 _ _ _
    rw [c_longestBreak (S := T.sA 95 f) (by omega) t7 (iv_cs t2) (fun i i0 i1 => by rw [e95, f1 i i0 (by omega)]; exact iv_b t2 p.1 (by omega) i0 (by omega)) q.1 q.2, mm_cI_ok, e95] at he
    exact ⟨T.sA 95 f, _, he, iv_fr t2 (fun _ _ _ => rfl) (fun y hy => by unfold iv_rA at hy; exact mm_gA_ne (by omega)), t3, fun z => by omega, fun z => by omega, fun z => by omega, fun _ => ⟨f, f1, rfl⟩⟩
theorem i_dayM (h : iv S k) (hd : 20 ≤ d) {s x w V : Int} (hs : iv_n s) (hx : iv_n x) (hw : iv_n w) (p : 0 ≤ s ∧ s < S.I 3 10) (q : 0 ≤ x ∧ x < 40) (r : 0 ≤ w ∧ w < 4) (hV : iv_dv S s x w V) (c : mm_N) : ∃ T, mm_ev E d 221 [.ref (mm_ad B 101), .int (mm_i s), .int (mm_i x), .int (mm_i w)] (mm_hp B S c) = mm_oI V (mm_hp B T c) ∧ T.I 101 0 = 0 ∧ T.L = S.L ∧ iv T k := by
  obtain ⟨e, rfl⟩ : ∃ e, d = e + 1 := ⟨d - 1, by omega⟩
  obtain ⟨F, hF, he⟩ := mm_w221 E e B S c (mm_i s) (mm_i x) (mm_i w)
  have hn := iv_nn h
  have hT := h.2.1.2.2
  have hR := iv_RL h
  obtain ⟨f, g, f1, g1, fg⟩ := m_layCalls (E := E) (d := e) (B := B) (c := c) (S := S.sI 101 0 0) (a := 3) (by omega) (by omega) hT hR (iv_dE h) p.1 p.2
  rw [mm_e221_0] at he
  simp (disch := omega) only [mm_ptM] at he
  rw [iv_MS h (by omega) hs, if_pos p, iv_MI (by omega) hx (by omega) (by omega), if_pos (by omega), iv_MI (by omega) hw (by omega) (by omega), if_pos (by omega), fg, mm_cV_ok] at he
  simp (disch := omega) only [mm_br_eq] at he
  refine ⟨((S.sI 101 0 0).sA 117 f).sA 118 g, ?_, rfl, rfl, iv_fr h (fun y z hy => ?_) (fun y hy => ?_)⟩
  · rw [he]
    have a117 : (((S.sI 101 0 0).sA 117 f).sA 118 g).A 117 = f := by simp (disch := omega) only [mm_gs, pp_ne, mm_gA_ne]
    have a118 : (((S.sI 101 0 0).sA 117 f).sA 118 g).A 118 = g := mm_gs.2.2.2.2.2.2.2.2.1 _ _ _
    obtain ⟨v0, v1, v2, v3⟩ := hV
    by_cases w0 : w = 0
    · rw [if_pos w0, mm_e221_47]
      simp (disch := omega) only [mm_ptM, mm_hm]
      have e1 : (((S.sI 101 0 0).sA 117 f).sA 118 g).A 106 (40 * s + x) = S.A (3 + 6) (s * 40 + x) := by
        rw [show 40 * s + x = s * 40 + x by omega]
        exact iv_dE h _ (by omega) (by omega)
      rw [v0 w0, e1]
    rw [if_neg w0, mm_e221_61]
    simp (disch := omega) only [mm_br_eq]
    by_cases w1 : w = 1
    · rw [if_pos w1]
      simp (disch := omega) only [mm_ptM]
      rw [a117, f1 x q.1 q.2, v1 w1]
      rfl
    rw [if_neg w1]
    by_cases w2 : w = 2
    · rw [if_pos w2, m_onHand (S := ((S.sI 101 0 0).sA 117 f).sA 118 g) (a := 3) (g := pp_cd S 3 s) (by omega) hT hR (iv_TM h) (iv_tE h) p.1 p.2 q.1 q.2 (fun i i0 i1 => by rw [a117]; exact f1 i i0 i1), mm_cI_ok, v2 w2]
      rfl
    · obtain ⟨bd, b1, b2⟩ := v3 (by omega)
      rw [if_neg w2, m_breaking (S := ((S.sI 101 0 0).sA 117 f).sA 118 g) (g := pp_cd S 3 s) (bd := bd) (by omega) q.1 q.2 (fun i i0 i1 => by rw [a117]; exact f1 i i0 i1) (fun i i0 i1 => by
        have z := iv_b h p.1 p.2 i0 (n := i) (by omega)
        rw [a118, b1 i i0 (by omega)]
        exact ⟨g1 i i0 (by omega), z⟩) (iv_cs h), mm_cI_ok, b2]
  · unfold iv_rI at hy
    show (S.sI 101 0 0).I y z = _
    rw [mm_gI_ne (by omega)]
  · unfold iv_rA at hy
    rw [mm_gA_ne (by omega), mm_gA_ne (by omega)]
    rfl
theorem i_day (h : iv S k) (hd : 20 ≤ d) {s x w : Int} (hs : iv_n s) (hx : iv_n x) (hw : iv_n w) : iv_ok E B d S k 125 [.ref (mm_ad B 0), .int (mm_i s), .int (mm_i x), .int (mm_i w)] 221 [.ref (mm_ad B 101), .int (mm_i s), .int (mm_i x), .int (mm_i w)] iv_c1 := by
  by_cases p : (0 ≤ s ∧ s < S.I 3 10) ∧ (0 ≤ x ∧ x < 40) ∧ (0 ≤ w ∧ w < 4)
  · intro c
    obtain ⟨T, V, t1, t2, t3, t4⟩ := i_dayC (E := E) (d := d) (B := B) h (by omega) hs hx hw p.1 p.2.1 p.2.2 c
    refine ⟨T, Or.inl ⟨V, t1, fun o => ?_⟩⟩
    obtain ⟨U, u1, u2, u3, u4⟩ := i_dayM (E := E) (d := d) (B := B) (S := T.sL 123 o) (V := V) (iv_sL t2 o) hd hs hx hw (by show 0 ≤ s ∧ s < T.I 3 10; rw [t3]; exact p.1) p.2.1 p.2.2 t4 c
    exact ⟨U, u1, u2, by rw [u3]; simp only [mm_gs], iv_up u4 (by omega)⟩
  · have x1 := hx.1
    have x2 := hx.2
    have w1 := hw.1
    have w2 := hw.2
    refine iv_thr h 0 (by decide) (fun c => mm_v125 (by omega) (fun F e hF he => ?_)) (fun c => ⟨0, mm_v221 (by omega) (fun F e hF he => ?_)⟩)
    · rw [mm_e125_0, iv_CS h (by omega) hs]
      by_cases p1 : 0 ≤ s ∧ s < S.I 3 10
      · rw [if_pos p1, c_checkDay (by omega) hx.1 hx.2]
        by_cases p2 : 0 ≤ x ∧ x < 40
        · rw [if_pos p2, mm_cV_ok, iv_CW (by omega) hw (by omega), if_neg (fun z => p ⟨p1, p2, z⟩)]
        · rw [if_neg p2, iv_Vth]
      · rw [if_neg p1]
    · rw [mm_e221_0]
      simp (disch := omega) only [mm_ptM]
      rw [iv_MS h (by omega) hs]
      by_cases p1 : 0 ≤ s ∧ s < S.I 3 10
      · rw [if_pos p1, iv_MI (by omega) hx (by omega) (by omega)]
        by_cases p2 : 0 ≤ x ∧ x ≤ 39
        · rw [if_pos p2, iv_MI (by omega) hw (by omega) (by omega), if_neg (fun z => p ⟨p1, by omega, by omega⟩), iv_MF (by omega)]; rfl
        · rw [if_neg p2, iv_MF (by omega)]; rfl
      · rw [if_neg p1, iv_MF (by omega)]; rfl
end
