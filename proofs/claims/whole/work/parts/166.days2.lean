/-! DAYS, CHAIN -/
section
variable {E : mm_E} {d B : Nat} {S : mm_S} {k : Nat}
def iv_dw (S : mm_S) (s w V : Int) : Prop := (w = 0 → V = if pp_nd S 3 s < 0 then -1 else pp_ng (iv_oh S s) 40) ∧ (w = 1 → ∃ f, iv_BF S s f ∧ V = pp_first (fun x => decide (pp_lb (pp_bk (pp_cd S 3 s) f x) (x + 1).toNat ≤ 0)) 40 0) ∧ (w = 2 → V = if pp_nd S 3 s < 0 then -1000000 else pp_le (iv_oh S s) 40)
theorem i_daysC (h : iv S k) (hd : 6 ≤ d) {s w : Int} (hs : iv_n s) (hw : iv_n w) (p : 0 ≤ s ∧ s < S.I 3 10) (r : 0 ≤ w ∧ w < 3) (c : mm_N) : ∃ T V, mm_ev E d 126 [.ref (mm_ad B 0), .int (mm_i s), .int (mm_i w)] (mm_hp B S c) = mm_oI V (mm_hp B T c) ∧ iv T k ∧ T.I 3 10 = S.I 3 10 ∧ iv_dw T s w V := by
  obtain ⟨e, rfl⟩ : ∃ e, d = e + 1 := ⟨d - 1, by omega⟩
  obtain ⟨F, hF, he⟩ := mm_w126 E e B S c (mm_i s) (mm_i w)
  obtain ⟨T, t1, t2, t3, t4, t5, t6, t7⟩ := iv_LO (E := E) (d := e) (B := B) h (by omega) p.1 p.2 c
  have hn := iv_nn h
  have nr := pp_nd_r t2.2.1.2.2.1 (iv_TM t2) p.1 (by omega)
  have tm := iv_TM t2 s p.1 (by omega)
  rw [mm_e126_0, iv_CS h (by omega) hs, if_pos p, iv_CW (by omega) hw (by omega), if_pos r] at he
  simp (disch := omega) only [mm_ptP] at he
  rw [t1, mm_cV_ok] at he
  simp (disch := omega) only [mm_br_eq, mm_ptP, mm_ptL, mm_br_le] at he
  by_cases w1 : w = 1
  · rw [if_pos w1] at he
    obtain ⟨f, f1, f2⟩ := c_openBounds (E := E) (d := e) (B := B) (c := c) (S := T) (a := 3) (by omega) (by omega) t2.2.1.2.2 p.1 (show s < T.I 3 10 by omega)
    rw [f2, mm_cV_ok, mm_e126_39] at he
    simp (disch := omega) only [mm_ptP] at he
    have e95 : (T.sA 95 f).A 95 = f := mm_gs.2.2.2.2.2.2.2.2.1 _ _ _
    rw [c_firstBreak (S := T.sA 95 f) (by omega) t7 (iv_cs t2) (fun i i0 i1 => by rw [e95, f1 i i0 (by omega)]; exact iv_b t2 p.1 (by omega) i0 (by omega)), mm_cI_ok, e95] at he
    exact ⟨T.sA 95 f, _, he, iv_fr t2 (fun _ _ _ => rfl) (fun y hy => by unfold iv_rA at hy; exact mm_gA_ne (by omega)), t3, fun z => by omega, fun _ => ⟨f, f1, rfl⟩, fun z => by omega⟩
  rw [if_neg w1] at he
  by_cases g : pp_nd T 3 s < 0
  · rw [if_neg (by omega), mm_e126_57] at he
    simp (disch := omega) only [mm_br_eq] at he
    by_cases w0 : w = 0
    · rw [if_pos w0] at he
      exact ⟨T, _, he, t2, t3, fun _ => by rw [if_pos g], fun z => by omega, fun z => by omega⟩
    · rw [if_neg w0] at he
      exact ⟨T, _, he, t2, t3, fun z => by omega, fun z => by omega, fun _ => by rw [if_pos g]⟩
  · rw [if_neg g] at t5
    have b := iv_b t2 p.1 (by omega) (n := pp_nd T 3 s) (by omega) (by omega)
    have t5' : 0 ≤ T.I 93 3 ∧ T.I 93 3 ≤ 1000000 := by rw [t5]; exact b
    rw [if_pos (by omega), mm_e126_69] at he
    simp (disch := omega) only [mm_br_eq, mm_e126_73, mm_e126_83, mm_ptP] at he
    rw [c_short (by omega) t7 (iv_cs t2) t5' (by omega) (by omega), c_leastOn (by omega) t7 (iv_cs t2) t5' (by omega) (by omega), mm_cI_ok, mm_cI_ok, t4, t5, t6] at he
    by_cases w0 : w = 0
    · rw [if_pos w0] at he
      exact ⟨T, _, he, t2, t3, fun _ => by rw [if_neg g]; rfl, fun z => by omega, fun z => by omega⟩
    · rw [if_neg w0] at he
      exact ⟨T, _, he, t2, t3, fun z => by omega, fun z => by omega, fun _ => by rw [if_neg g]; rfl⟩
theorem l_days1 {g bd : Int → Int} {s w : Int} (hd : 1 ≤ d) (hg : ∀ i : Int, 0 ≤ i → i < 40 → S.A 117 i = g i) (hb : ∀ i : Int, 0 ≤ i → i ≤ 40 → S.A 118 i = bd i ∧ 0 ≤ bd i ∧ bd i ≤ 1000000) (hs : ∀ k : Nat, k ≤ 40 → 0 ≤ pp_sm g k ∧ pp_sm g k ≤ 479520) (c : mm_N) (o4 o5 o6 : Option Value) : ∀ (j n : Nat) (x : Int), 0 ≤ x → x + j = 40 → j < n → mm_r222_40 E (mm_ev E d) n (mm_ad B 101) (mm_i s) (mm_i w) (mm_i x) o4 o5 o6 (mm_hp B S c) = mm_oI (pp_first (fun x => decide (pp_lb (pp_bk g bd x) (x + 1).toNat ≤ 0)) j x) (mm_hp B S c) := by
  intro j
  induction j with
  | zero =>
    intro n x h0 hx hn
    obtain ⟨n, rfl⟩ : ∃ q, n = q + 1 := ⟨n - 1, by omega⟩
    rw [mm_e222_40]
    simp (disch := omega) only [mm_br_le]
    rw [if_pos (by omega)]
    rfl
  | succ j ih =>
    intro n x h0 hx hn
    obtain ⟨n, rfl⟩ : ∃ q, n = q + 1 := ⟨n - 1, by omega⟩
    have r := pp_lb_r (pp_bk g bd x) (x + 1).toNat
    rw [mm_e222_40]
    simp (disch := omega) only [mm_br_le]
    rw [if_neg (by omega), m_breaking hd h0 (by omega) hg hb hs, mm_cI_ok]
    simp (disch := omega) only [mm_br_le, mm_hm]
    show _ = mm_oI (if decide (pp_lb (pp_bk g bd x) (x + 1).toNat ≤ 0) = true then _ else x) (mm_hp B S c)
    by_cases e : pp_lb (pp_bk g bd x) (x + 1).toNat ≤ 0
    · rw [if_pos e, if_pos (decide_eq_true e)]
      exact ih _ _ (by omega) (by omega) (by omega)
    · rw [if_neg e, if_neg (fun z => e (of_decide_eq_true z))]
theorem l_days2 {g : Int → Int} {s w : Int} (hw : iv_n w) (hg : ∀ (x : Int) (c : mm_N), 0 ≤ x → x < 40 → mm_ev E d 219 [.ref (mm_ad B 101), .int (mm_i s), .int (mm_i x)] (mm_hp B S c) = mm_oI (g x) (mm_hp B S c)) (hr : ∀ x : Int, 0 ≤ x → x < 40 → -1000000 ≤ g x ∧ g x ≤ 2000000) (c : mm_N) : ∀ (j k n : Nat) (o6 : Option Value), k + j = 40 → j < n → mm_r222_96 E (mm_ev E d) n (mm_ad B 101) (mm_i s) (mm_i w) (mm_i (pp_ng g k)) (mm_i (pp_le g k)) (mm_i k) o6 (mm_hp B S c) = mm_oI (if w = 0 then pp_ng g 40 else pp_le g 40) (mm_hp B S c) := by
  have w1 := hw.1
  have w2 := hw.2
  intro j
  induction j with
  | zero =>
    intro k n o6 hk hn
    obtain ⟨n, rfl⟩ : ∃ q, n = q + 1 := ⟨n - 1, by omega⟩
    rw [mm_e222_96]
    simp (disch := omega) only [mm_br_le, mm_br_eq]
    rw [if_pos (by omega), show k = 40 by omega]
    by_cases e : w = 0
    · rw [if_pos e, if_pos e]
    · rw [if_neg e, if_neg e]
  | succ j ih =>
    intro k n o6 hk hn
    obtain ⟨n, rfl⟩ : ∃ q, n = q + 1 := ⟨n - 1, by omega⟩
    have ih := ih (k + 1) n (some (.int (mm_i (g k)))) (by omega) (by omega)
    rw [Int.natCast_add, Int.natCast_one, pp_le, pp_ng] at ih
    have r := hr k (by omega) (by omega)
    have r2 := pp_le_r (g := g) (fun i i1 i2 => hr i i1 i2) k (by omega)
    rw [mm_e222_96]
    simp (disch := omega) only [mm_br_le]
    rw [if_neg (by omega), hg k c (by omega) (by omega), mm_cI_ok]
    simp (disch := omega) only [mm_i_mn, mm_hm, mm_br_le]
    rw [← ih]
    by_cases e : 0 ≤ g k
    · rw [if_pos e, if_neg (by omega)]
    · rw [if_neg e, if_pos (by omega)]
theorem i_daysM (h : iv S k) (hd : 20 ≤ d) {s w V : Int} (hs : iv_n s) (hw : iv_n w) (p : 0 ≤ s ∧ s < S.I 3 10) (r : 0 ≤ w ∧ w < 3) (hV : iv_dw S s w V) (c : mm_N) : ∃ T, mm_ev E d 222 [.ref (mm_ad B 101), .int (mm_i s), .int (mm_i w)] (mm_hp B S c) = mm_oI V (mm_hp B T c) ∧ T.I 101 0 = 0 ∧ T.L = S.L ∧ iv T k := by
  obtain ⟨e, rfl⟩ : ∃ e, d = e + 1 := ⟨d - 1, by omega⟩
  obtain ⟨F, hF, he⟩ := mm_w222 E e B S c (mm_i s) (mm_i w)
  have hn := iv_nn h
  have hT := h.2.1.2.2
  have hR := iv_RL h
  have hM := iv_TM h
  have nr := pp_nd_r hT.1 hM p.1 p.2
  have tm := hM s p.1 (by omega)
  obtain ⟨f, g, f1, g1, fg⟩ := m_layCalls (E := E) (d := e) (B := B) (c := c) (S := S.sI 101 0 0) (a := 3) (by omega) (by omega) hT hR (iv_dE h) p.1 p.2
  rw [mm_e222_0] at he
  simp (disch := omega) only [mm_ptM] at he
  rw [iv_MS h (by omega) hs, if_pos p, iv_MI (by omega) hw (by omega) (by omega), if_pos (by omega), fg, mm_cV_ok] at he
  simp (disch := omega) only [mm_br_eq] at he
  refine ⟨((S.sI 101 0 0).sA 117 f).sA 118 g, ?_, rfl, rfl, iv_fr h (fun y z hy => ?_) (fun y hy => ?_)⟩
  · rw [he]
    have a117 : (((S.sI 101 0 0).sA 117 f).sA 118 g).A 117 = f := by simp (disch := omega) only [mm_gs, pp_ne, mm_gA_ne]
    have a118 : (((S.sI 101 0 0).sA 117 f).sA 118 g).A 118 = g := mm_gs.2.2.2.2.2.2.2.2.1 _ _ _
    obtain ⟨v0, v1, v2⟩ := hV
    by_cases w1 : w = 1
    · obtain ⟨bd, b1, b2⟩ := v1 w1
      rw [if_pos w1, b2]
      exact l_days1 (S := ((S.sI 101 0 0).sA 117 f).sA 118 g) (g := pp_cd S 3 s) (bd := bd) (by omega) (fun i i0 i1 => by rw [a117]; exact f1 i i0 i1) (fun i i0 i1 => by
        have z := iv_b h p.1 p.2 i0 (n := i) (by omega)
        rw [a118, b1 i i0 (by omega)]
        exact ⟨g1 i i0 (by omega), z⟩) (iv_cs h) c _ _ _ 40 (F + 99) 0 (by omega) (by omega) (by omega)
    have c2 := m_netOf (E := E) (d := e) (B := B) (c := c) (S := ((S.sI 101 0 0).sA 117 f).sA 118 g) (a := 3) (by omega) hT.1 hR hM (iv_tE h) p.1 p.2
    have e2 : pp_nd (((S.sI 101 0 0).sA 117 f).sA 118 g) 3 s = pp_nd S 3 s := rfl
    rw [e2] at c2
    rw [if_neg w1, c2, mm_cI_ok]
    simp (disch := omega) only [mm_br_le]
    by_cases q : pp_nd S 3 s < 0
    · rw [if_neg (by omega), mm_e222_72]
      simp (disch := omega) only [mm_br_eq]
      by_cases w0 : w = 0
      · rw [if_pos w0, v0 w0, if_pos q]
      · rw [if_neg w0, v2 (by omega), if_pos q]
    · have hg : ∀ (x : Int) (c : mm_N), 0 ≤ x → x < 40 → mm_ev E e 219 [.ref (mm_ad B 101), .int (mm_i s), .int (mm_i x)] (mm_hp B (((S.sI 101 0 0).sA 117 f).sA 118 g) c) = mm_oI (iv_oh S s x) (mm_hp B (((S.sI 101 0 0).sA 117 f).sA 118 g) c) := fun x c x0 x1 => by
        rw [m_onHand (S := ((S.sI 101 0 0).sA 117 f).sA 118 g) (a := 3) (g := pp_cd S 3 s) (by omega) hT hR (iv_TM h) (iv_tE h) p.1 p.2 x0 x1 (fun i i0 i1 => by rw [a117]; exact f1 i i0 i1), e2, if_neg q]
        rfl
      have b := iv_b h p.1 p.2 (n := pp_nd S 3 s) (by omega) (by omega)
      have hr : ∀ x : Int, 0 ≤ x → x < 40 → -1000000 ≤ iv_oh S s x ∧ iv_oh S s x ≤ 2000000 := fun x x0 x1 => pp_oh_r (iv_cs h) b x0 x1 tm.1 (by omega)
      have l := l_days2 (E := E) (d := e) (B := B) (S := ((S.sI 101 0 0).sA 117 f).sA 118 g) (g := iv_oh S s) (s := s) hw hg hr c 40 0 (F + 98) none (by omega) (by omega)
      rw [if_pos (by omega), mm_e222_83, hg 0 c (by omega) (by omega), mm_cI_ok]
      refine Eq.trans l ?_
      by_cases w0 : w = 0
      · rw [if_pos w0, v0 w0, if_neg q]
      · rw [if_neg w0, v2 (by omega), if_neg q]
  · unfold iv_rI at hy
    show (S.sI 101 0 0).I y z = _
    rw [mm_gI_ne (by omega)]
  · unfold iv_rA at hy
    rw [mm_gA_ne (by omega), mm_gA_ne (by omega)]
    rfl
theorem i_days (h : iv S k) (hd : 20 ≤ d) {s w : Int} (hs : iv_n s) (hw : iv_n w) : iv_ok E B d S k 126 [.ref (mm_ad B 0), .int (mm_i s), .int (mm_i w)] 222 [.ref (mm_ad B 101), .int (mm_i s), .int (mm_i w)] iv_c1 := by
  by_cases p : (0 ≤ s ∧ s < S.I 3 10) ∧ (0 ≤ w ∧ w < 3)
  · intro c
    obtain ⟨T, V, t1, t2, t3, t4⟩ := i_daysC (E := E) (d := d) (B := B) h (by omega) hs hw p.1 p.2 c
    refine ⟨T, Or.inl ⟨V, t1, fun o => ?_⟩⟩
    obtain ⟨U, u1, u2, u3, u4⟩ := i_daysM (E := E) (d := d) (B := B) (S := T.sL 123 o) (V := V) (iv_sL t2 o) hd hs hw (by show 0 ≤ s ∧ s < T.I 3 10; rw [t3]; exact p.1) p.2 t4 c
    exact ⟨U, u1, u2, by rw [u3]; simp only [mm_gs], iv_up u4 (by omega)⟩
  · have w1 := hw.1
    have w2 := hw.2
    refine iv_thr h 0 (by decide) (fun c => mm_v126 (by omega) (fun F e hF he => ?_)) (fun c => ⟨0, mm_v222 (by omega) (fun F e hF he => ?_)⟩)
    · rw [mm_e126_0, iv_CS h (by omega) hs]
      by_cases p1 : 0 ≤ s ∧ s < S.I 3 10
      · rw [if_pos p1, iv_CW (by omega) hw (by omega), if_neg (fun z => p ⟨p1, z⟩)]
      · rw [if_neg p1]
    · rw [mm_e222_0]
      simp (disch := omega) only [mm_ptM]
      rw [iv_MS h (by omega) hs]
      by_cases p1 : 0 ≤ s ∧ s < S.I 3 10
      · rw [if_pos p1, iv_MI (by omega) hw (by omega) (by omega), if_neg (fun z => p ⟨p1, by omega⟩), iv_MF (by omega)]; rfl
      · rw [if_neg p1, iv_MF (by omega)]; rfl
end
