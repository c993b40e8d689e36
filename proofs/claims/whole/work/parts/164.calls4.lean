/-! DEMAND, PLANNED, PLAN, CHAIN -/
section
variable {E : mm_E} {d B : Nat} {S : mm_S} {k : Nat}
theorem i_demand (h : iv S k) (hd : 4 ≤ d) {s x t : Int} (hs : iv_n s) (hx : iv_n x) (ht : iv_n t) : iv_ok E B d S k 123 [.ref (mm_ad B 0), .int (mm_i s), .int (mm_i x), .int (mm_i t)] 214 [.ref (mm_ad B 101), .int (mm_i s), .int (mm_i x), .int (mm_i t)] iv_c2 := by
  have nn := iv_nn h
  have t1 := ht.1
  have t2 := ht.2
  have x1 := hx.1
  have x2 := hx.2
  have z : ∀ (e m : Nat) (v : Int) (c : mm_N), 0 < v → v ≤ 2 → mm_r214_39 E (mm_ev E e) (m + 1) (mm_ad B 101) (mm_i s) (mm_i x) (mm_i t) none (mm_ad B 101) (mm_i v) (mm_hp B S c) = mm_oI 0 (mm_hp B (S.sI 101 0 v) c) := fun e m v c v1 v2 => by
    rw [mm_e214_39]
    simp (disch := omega) only [mm_ptM, mm_gs, mm_br_le]
    rw [if_neg (by omega)]
  refine iv_C2 h (P := (0 ≤ s ∧ s < S.I 3 10) ∧ (0 ≤ x ∧ x < 40)) (Q := 0 ≤ t ∧ t ≤ 999) (V := S.A 9 (s * 40 + x)) (S1 := S.sA 9 (mm_u (S.A 9) (s * 40 + x) t)) (fun c => ?_) (fun p q o c => ?_) (fun p q c => ⟨0, ?_⟩) (fun p c => ⟨0, ?_⟩)
  · refine mm_v123 (by omega) (fun F e hF he => ?_)
    rw [mm_e123_0, iv_CS h (by omega) hs]
    by_cases p : 0 ≤ s ∧ s < S.I 3 10
    · rw [if_pos p, c_checkDay (by omega) x1 x2]
      by_cases r : 0 ≤ x ∧ x < 40
      · rw [if_pos r, if_pos ⟨p, r⟩, mm_cV_ok]
        simp (disch := omega) only [mm_br_lt, mm_br_le, mm_ptP, mm_ptN, mm_hm]
        by_cases q : 0 ≤ t ∧ t ≤ 999
        · rw [if_neg (by omega), if_pos q.2, if_pos q, mm_e123_51]
          simp (disch := omega) only [mm_ptP, mm_ptN, mm_gs]
        · rw [if_neg q]
          by_cases q1 : t < 0
          · rw [if_pos q1]; rfl
          · rw [if_neg q1, if_neg (by omega)]; rfl
      · rw [if_neg r, if_neg (fun z => r z.2), iv_Vth]
    · rw [if_neg p, if_neg (fun z => p z.1)]
  · have e1 := (h.2.2.1.2 (s * 40 + x) (by omega) (by omega)).1
    refine ⟨((((S.sA 9 (mm_u (S.A 9) (s * 40 + x) t)).sL 123 o).sI 101 0 0).sA 106 (mm_u (S.A 106) (s * 40 + x) t)), mm_v214 (by omega) (fun F e hF he => ?_), mm_gs.1 _ _ _ _, rfl, iv_up (iv_td h (fun x k hx => ?_) (fun x hx x8 x9 x5 x6 => ?_) ?_) (by omega)⟩
    · have eN := iv_N h
      have en : ((S.sA 9 (mm_u (S.A 9) (s * 40 + x) t)).sL 123 o).A 102 0 = S.I 3 10 := eN
      rw [mm_e214_0, iv_MSr (by omega) (by omega) hs, if_pos (by omega), iv_MI (by omega) hx (by omega) (by omega), if_pos (by omega), iv_MI (by omega) ht (by omega) (by omega), if_pos q, mm_e214_39]
      simp (disch := omega) only [mm_ptM, mm_gs, mm_br_le, pp_ne, mm_hm, mm_e214_64]
      rw [if_pos (by omega), show 40 * s + x = s * 40 + x by omega, e1]
    · unfold iv_rI at hx
      exact mm_gI_ne (by omega)
    · simp (disch := omega) only [mm_gs, pp_ne, mm_gA_ne]
    · exact iv_TDd h.2.2.1 (by omega) (by omega) q
  · refine mm_v214 (by omega) (fun F e hF he => ?_)
    rw [mm_e214_0, iv_MS0 h (by omega) hs, if_pos p.1, iv_MI (by omega) hx (by omega) (by omega), if_pos (by omega), iv_MI (by omega) ht (by omega) (by omega), if_neg q, z _ _ 2 c (by omega) (by omega)]
  · refine mm_v214 (by omega) (fun F e hF he => ?_)
    rw [mm_e214_0, iv_MS0 h (by omega) hs]
    by_cases p1 : 0 ≤ s ∧ s < S.I 3 10
    · rw [if_pos p1, iv_MI (by omega) hx (by omega) (by omega), if_neg (by omega), z _ _ 1 c (by omega) (by omega)]
    · rw [if_neg p1, z _ _ 1 c (by omega) (by omega)]
-- planned
theorem i_plannedM (h : iv S k) (hd : 19 ≤ d) {s w : Int} (hs : iv_n s) (hw : iv_n w) (c : mm_N) : mm_ev E d 185 [.ref (mm_ad B 101), .int (mm_i s), .int (mm_i w)] (mm_hp B S c) = if (0 ≤ s ∧ s < S.I 3 10) ∧ (0 ≤ w ∧ w < 6) then mm_oI (pp_bp S 3 s w) (mm_hp B (S.sI 101 0 0) c) else mm_oI 0 (mm_hp B (S.sI 101 0 1) c) := by
  have hn := iv_nn h
  have w1 := hw.1
  have w2 := hw.2
  have hR := iv_RL h
  have hT := h.2.1.2.2
  have hN := hT.1
  have hM := iv_TM h
  have hE := iv_tE h
  refine mm_v185 (by omega) (fun F e hF he => ?_)
  rw [mm_e185_0]
  simp (disch := omega) only [mm_ptM]
  rw [iv_MS h (by omega) hs]
  by_cases p : 0 ≤ s ∧ s < S.I 3 10
  · rw [if_pos p, iv_MI (by omega) hw (by omega) (by omega)]
    by_cases q : 0 ≤ w ∧ w < 6
    · have nr := pp_nd_r hN hM p.1 p.2
      have hr := pp_hd_r hT hM p.1 p.2
      have t := hN.2.2.2.2 s p.1 (by omega)
      unfold pp_tR at t
      have c1 := m_waitOf (E := E) (d := e) (B := B) (c := c) (S := S.sI 101 0 0) (a := 3) (by omega) hN hR hM hE p.1 p.2
      have c2 := m_netOf (E := E) (d := e) (B := B) (c := c) (S := S.sI 101 0 0) (a := 3) (by omega) hN hR hM hE p.1 p.2
      have c3 := m_heldOf (E := E) (d := e) (B := B) (c := c) (S := S.sI 101 0 0) (a := 3) (by omega) hT hR hM hE p.1 p.2
      have c4 := c_of (E := E) (d := e) (B := B) (c := c) (S := S.sI 101 0 0) (s := s) (w := 1) (by omega) p.1 (by omega) (by omega) (by omega)
      have tt : (S.sI 101 0 0).A 105 s = S.A (3 + 5) s := hE s p.1 p.2
      have t1 : (S.sI 101 0 0).A 102 (3 + 7 * s + 1) = S.A (3 + 1) (s * 7 + 1) := hR.2.2.2.1 s 1 p.1 p.2 (by omega) (by omega)
      have e2 : pp_nd (S.sI 101 0 0) 3 s = pp_nd S 3 s := rfl
      have e3 : pp_hd (S.sI 101 0 0) 3 s = pp_hd S 3 s := rfl
      have e1 : pp_wt (S.sI 101 0 0) 3 s = pp_wt S 3 s := rfl
      rw [e1] at c1
      rw [e2] at c2
      rw [e3] at c3
      rw [t1] at c4
      rw [if_pos (by omega), if_pos ⟨p, q⟩, c1, c2, c3]
      simp (disch := omega) only [mm_br_eq, mm_cI_ok, mm_ptM, tt, mm_br_le]
      unfold pp_bp
      by_cases e0 : w = 0
      · rw [if_pos e0, if_pos e0]
      rw [if_neg e0, if_neg e0]
      by_cases e1 : w = 1
      · rw [if_pos e1, if_pos e1]
      rw [if_neg e1, if_neg e1]
      by_cases e2 : w = 2
      · rw [if_pos e2, if_pos e2]
      rw [if_neg e2, if_neg e2]
      by_cases e3 : w = 3
      · rw [if_pos e3, if_pos e3]
      rw [if_neg e3, if_neg e3]
      by_cases e4 : w = 4
      · rw [if_pos e4, if_pos e4]
        by_cases g : 0 ≤ pp_nd S 3 s
        · have c5 := m_bound (E := E) (d := e) (B := B) (c := c) (S := S.sI 101 0 0) (a := 3) (s := s) (n := pp_nd S 3 s) hT hR (by omega) p.1 p.2 (by omega)
          rw [if_pos g, if_neg (by omega), mm_e185_101, c2, mm_cI_ok, c5, mm_cI_ok]
          rfl
        · rw [if_neg g, if_pos (by omega)]
      · rw [if_neg e4, if_neg e4]
        by_cases g : 0 ≤ pp_nd S 3 s
        · rw [if_pos g, if_neg (by omega), mm_e185_124, c4, mm_cI_ok, c3, mm_cI_ok, mm_i_mul]
        · rw [if_neg g, if_pos (by omega)]
    · rw [if_neg (by omega), if_neg (fun z => q z.2), iv_MF (by omega)]
  · rw [if_neg p, if_neg (fun z => p z.1), iv_MF (by omega)]
theorem i_planned (h : iv S k) (hd : 19 ≤ d) {s w : Int} (hs : iv_n s) (hw : iv_n w) : iv_ok E B d S k 116 [.ref (mm_ad B 0), .int (mm_i s), .int (mm_i w)] 185 [.ref (mm_ad B 101), .int (mm_i s), .int (mm_i w)] iv_c1 := by
  have hn := iv_nn h
  have w1 := hw.1
  have w2 := hw.2
  refine iv_C h (x := 0) (P := (0 ≤ s ∧ s < S.I 3 10) ∧ (0 ≤ w ∧ w < 6)) (V := pp_bp S 3 s w) (by decide) (fun c => ?_) (fun p o c => ?_) (fun p c => ⟨0, ?_⟩)
  · refine mm_v116 (by omega) (fun F e hF he => ?_)
    rw [mm_e116_0, iv_CS h (by omega) hs]
    by_cases p : 0 ≤ s ∧ s < S.I 3 10
    · rw [if_pos p, iv_CW (by omega) hw (by omega)]
      by_cases q : 0 ≤ w ∧ w < 6
      · rw [if_pos q, if_pos ⟨p, q⟩]
        simp (disch := omega) only [mm_ptP]
        rw [c_byPlan (by omega) (by omega) h.2.1.2.2 (iv_TM h) p.1 p.2 w1 w2, mm_cI_ok]
      · rw [if_neg q, if_neg (fun z => q z.2)]
    · rw [if_neg p, if_neg (fun z => p z.1)]
  · have g := i_plannedM (E := E) (d := d) (B := B) (iv_sL h o) hd hs hw c
    exact g.trans (if_pos p)
  · rw [i_plannedM h hd hs hw, if_neg p]; rfl
-- plan
noncomputable def iv_pln (S : mm_S) (w : Int) : Int := if w = 0 then (if pp_first (pp_rg S 3) (S.I 3 10).toNat 0 = -1 then pp_sm (fun s => pp_bp S 3 s 5) (S.I 3 10).toNat else -1) else if w = 1 then pp_first (pp_rg S 3) (S.I 3 10).toNat 0 else pp_ho S 3 (S.I 3 10).toNat
theorem pp_ho_c {T : mm_S} (h : ∀ s, pp_hd T 3 s = pp_hd S 3 s) : ∀ n : Nat, pp_ho T 3 n = pp_ho S 3 n
  | 0 => rfl
  | n + 1 => by rw [pp_ho, pp_ho, pp_ho_c h n, h]
theorem l_planM (h : iv S k) (hd : 17 ≤ d) (c : mm_N) (x1 : Int32) : ∀ (j k n : Nat), (S.I 3 10).toNat = k + j → j < n → mm_r186_58 E (mm_ev E d) n (mm_ad B 101) x1 (mm_i (pp_ho S 3 k)) (mm_i k) (mm_hp B S c) = mm_oI (pp_ho S 3 (S.I 3 10).toNat) (mm_hp B S c) := by
  have hT := h.2.1.2.2
  have hn := hT.1.1
  have hM := iv_TM h
  have eN := iv_N h
  intro j
  induction j with
  | zero =>
    intro k n hk hj
    obtain ⟨n, rfl⟩ : ∃ m, n = m + 1 := ⟨n - 1, by omega⟩
    rw [mm_e186_58, c_many (by omega), mm_cI_ok]
    simp (disch := omega) only [mm_br_le]
    rw [if_pos (by omega), show (S.I 3 10).toNat = k from hk]
  | succ j ih =>
    intro k n hk hj
    obtain ⟨n, rfl⟩ : ∃ m, n = m + 1 := ⟨n - 1, by omega⟩
    have ih := ih (k + 1) n (by omega) (by omega)
    rw [Int.natCast_add, Int.natCast_one] at ih
    have hr := pp_hd_r hT hM (s := k) (by omega) (by omega)
    have z := pp_ho_nn S 3 k
    have z2 := mm_pw_nn k
    rw [mm_e186_58, c_many (by omega), mm_cI_ok]
    simp (disch := omega) only [mm_br_le]
    rw [if_neg (by omega), m_heldOf hd hT (iv_RL h) hM (iv_tE h) (by omega) (by omega), mm_cI_ok]
    simp (disch := omega) only [mm_br_le, mm_i_shl, mm_i_or, mm_hm]
    rw [← ih, pp_ho]
    by_cases f : pp_hd S 3 k ≤ 0
    · rw [if_pos f, if_neg (by omega)]
    · rw [if_neg f, if_pos (by omega)]
theorem i_planM (h : iv S k) (hd : 20 ≤ d) {w : Int} (hw : iv_n w) (c : mm_N) : mm_ev E d 186 [.ref (mm_ad B 101), .int (mm_i w)] (mm_hp B S c) = if 0 ≤ w ∧ w < 3 then mm_oI (iv_pln S w) (mm_hp B (S.sI 101 0 0) c) else mm_oI 0 (mm_hp B (S.sI 101 0 1) c) := by
  have hn := iv_nn h
  have w1 := hw.1
  have w2 := hw.2
  have hR := iv_RL h
  have hT := h.2.1.2.2
  have hM := iv_TM h
  have hE := iv_tE h
  refine mm_v186 (by omega) (fun F e hF he => ?_)
  have c1 := m_firstWrong (E := E) (d := e) (B := B) (c := c) (S := S.sI 101 0 0) (a := 3) (by omega) hT.1 hR hM hE
  have c2 := m_priceNow (E := E) (d := e) (B := B) (c := c) (S := S.sI 101 0 0) (a := 3) (by omega) hT hR hM hE
  have l := l_planM (E := E) (d := e) (B := B) (iv_sc h 0) (by omega) c (mm_i w) (S.I 3 10).toNat 0 (F + 99) (by show (S.I 3 10).toNat = _; omega) (by omega)
  have e1 : pp_first (pp_rg (S.sI 101 0 0) 3) ((S.sI 101 0 0).I 3 10).toNat 0 = pp_first (pp_rg S 3) (S.I 3 10).toNat 0 := rfl
  rw [e1] at c1
  have e2 : pp_sm (fun s => (S.sI 101 0 0).A (3 + 1) (s * 7 + 1) * pp_hd (S.sI 101 0 0) 3 s) ((S.sI 101 0 0).I 3 10).toNat = pp_sm (fun s => S.A (3 + 1) (s * 7 + 1) * pp_hd S 3 s) (S.I 3 10).toNat := rfl
  rw [e2] at c2
  have fr := pp_first_r (pp_rg S 3) (S.I 3 10).toNat 0 (by omega)
  have fr : -1 ≤ pp_first (pp_rg S 3) (S.I 3 10).toNat 0 ∧ pp_first (pp_rg S 3) (S.I 3 10).toNat 0 < 12 := by rcases fr with g | g <;> omega
  unfold iv_pln
  rw [mm_e186_0]
  simp (disch := omega) only [mm_ptM]
  rw [c1, mm_cI_ok, mm_cI_ok, c2, mm_cI_ok, iv_MF (by omega)]
  simp (disch := omega) only [mm_br_eq]
  by_cases q0 : w = 0
  · rw [if_pos q0, if_pos (show 0 ≤ w ∧ w < 3 by omega), if_pos q0]
    by_cases g : pp_first (pp_rg S 3) (S.I 3 10).toNat 0 = -1
    · rw [if_pos g, if_pos g, pp_price_eq hn.1 g]
    · rw [if_neg g, if_neg g]
  by_cases q1 : w = 1
  · rw [if_neg q0, if_pos q1, if_pos (by omega), if_neg q0, if_pos q1]
  by_cases q2 : w = 2
  · rw [if_neg q0, if_neg q1, if_pos q2, if_pos (by omega), if_neg q0, if_neg q1]
    rw [pp_ho_c (S := S) (T := S.sI 101 0 0) (fun _ => rfl), pp_ho_c (S := S) (T := S.sI 101 0 0) (fun _ => rfl)] at l
    exact l
  · rw [if_neg q0, if_neg q1, if_neg q2, if_neg (by omega)]
theorem i_plan (h : iv S k) (hd : 20 ≤ d) {w : Int} (hw : iv_n w) : iv_ok E B d S k 117 [.ref (mm_ad B 0), .int (mm_i w)] 186 [.ref (mm_ad B 101), .int (mm_i w)] iv_c1 := by
  have hn := iv_nn h
  have w1 := hw.1
  have w2 := hw.2
  have hT := h.2.1.2.2
  have hM := iv_TM h
  refine iv_C h (x := 0) (P := 0 ≤ w ∧ w < 3) (V := iv_pln S w) (by decide) (fun c => ?_) (fun p o c => ?_) (fun p c => ⟨0, ?_⟩)
  · refine mm_v117 (by omega) (fun F e hF he => ?_)
    rw [mm_e117_0, iv_CW (by omega) hw (by omega)]
    by_cases p : 0 ≤ w ∧ w < 3
    · have fr := pp_first_r (pp_rg S 3) (S.I 3 10).toNat 0 (by omega)
      have fr : -1 ≤ pp_first (pp_rg S 3) (S.I 3 10).toNat 0 ∧ pp_first (pp_rg S 3) (S.I 3 10).toNat 0 < 12 := by rcases fr with g | g <;> omega
      rw [if_pos p, if_pos p]
      simp (disch := omega) only [mm_ptP]
      rw [c_firstNot (by omega) (by omega) hT.1 hM, c_holding (by omega) (by omega) hT hM]
      simp (disch := omega) only [mm_ptP, mm_cI_ok, mm_br_eq]
      rw [c_priceAt (by omega) (by omega) hT hM, mm_cI_ok]
      unfold iv_pln
      by_cases q0 : w = 0
      · rw [if_pos q0, if_pos q0]
        by_cases g : pp_first (pp_rg S 3) (S.I 3 10).toNat 0 = -1
        · rw [if_pos g, if_pos g]
        · rw [if_neg g, if_neg g]
      by_cases q1 : w = 1
      · rw [if_neg q0, if_pos q1, if_neg q0, if_pos q1]
      · rw [if_neg q0, if_neg q1, if_neg q0, if_neg q1]
    · rw [if_neg p, if_neg p]
  · have g := i_planM (E := E) (d := d) (B := B) (iv_sL h o) hd hw c
    have e : iv_pln (S.sL 123 o) w = iv_pln S w := by
      unfold iv_pln
      rw [pp_ho_c (S := S) (T := S.sL 123 o) (fun _ => rfl)]
      rfl
    rw [e] at g
    exact g.trans (if_pos p)
  · rw [i_planM h hd hw, if_neg p]; rfl
end
