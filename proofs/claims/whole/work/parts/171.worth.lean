/-! WORTH -/
section
variable {E : mm_E} {d B : Nat} {S : mm_S} {k : Nat}
/-- which number is asked of, what it is when there is nothing to ask, what it becomes -/
def iv_ww (w : Int) : Int := if w = 0 then 0 else if w = 1 then 5 else 6
def iv_w0 (w : Int) : Int := if w = 0 then 0 else -1
def iv_wn (w v : Int) : Int := if w = 0 then v - 1 else if w = 1 then v + 1 else -1
def iv_wv (a b : Int) : Int := if a = -1 then -1000000 else if b = -1 then -1000000 else a - b
theorem iv_wok (h : iv S k) {s w : Int} (s0 : 0 ≤ s) (s1 : s < S.I 3 10) (w0 : 0 ≤ w) (w1 : w < 3) (hv : S.A (3 + 1) (s * 7 + iv_ww w) ≠ iv_w0 w) : pp_ml (iv_ww w) ≤ iv_wn w (S.A (3 + 1) (s * 7 + iv_ww w)) ∧ (iv_wn w (S.A (3 + 1) (s * 7 + iv_ww w)) ≤ pp_mo (iv_ww w) ∨ (iv_ww w = 5 ∧ iv_wn w (S.A (3 + 1) (s * 7 + iv_ww w)) ≤ 21)) := by
  have hn := iv_nn h
  have eN := iv_N h
  have t := h.2.1.2.2.1.2.2.2.2 s s0 (by omega)
  have r := h.2.2.2.2.2.2.2.2.2.2.1 s s0 (by omega)
  rw [(iv_RL h).2.2.2.1 s 5 s0 s1 (by omega) (by omega)] at r
  unfold pp_tR at t
  rcases (by omega : w = 0 ∨ w = 1 ∨ w = 2) with rfl | rfl | rfl
  · have a : iv_ww 0 = 0 := rfl
    have b : iv_w0 0 = 0 := rfl
    have m : pp_ml 0 = 0 := rfl
    have o : pp_mo 0 = 9 := rfl
    rw [a, b] at hv
    rw [a, m, o]
    have c : iv_wn 0 (S.A (3 + 1) (s * 7 + 0)) = S.A (3 + 1) (s * 7 + 0) - 1 := rfl
    rw [c]
    exact ⟨by omega, Or.inl (by omega)⟩
  · have a : iv_ww 1 = 5 := rfl
    have b : iv_w0 1 = -1 := rfl
    have m : pp_ml 5 = -1 := rfl
    rw [a, b] at hv
    rw [a, m]
    have c : iv_wn 1 (S.A (3 + 1) (s * 7 + 5)) = S.A (3 + 1) (s * 7 + 5) + 1 := rfl
    rw [c]
    exact ⟨by omega, Or.inr ⟨rfl, by omega⟩⟩
  · have a : iv_ww 2 = 6 := rfl
    have m : pp_ml 6 = -1 := rfl
    have o : pp_mo 6 = 119 := rfl
    rw [a, m, o]
    have c : iv_wn 2 (S.A (3 + 1) (s * 7 + 6)) = -1 := rfl
    rw [c]
    exact ⟨by omega, Or.inl (by omega)⟩
theorem i_worthC (h : iv S k) (hd : 8 ≤ d) {s w : Int} (hs : iv_n s) (hw : iv_n w) (p : 0 ≤ s ∧ s < S.I 3 10) (q : 0 ≤ w ∧ w < 3) (c : mm_N) : ∃ T v, mm_ev E d 119 [.ref (mm_ad B 0), .int (mm_i s), .int (mm_i w)] (mm_hp B S c) = mm_oI v (mm_hp B T c) ∧ iv T k ∧ T.A 102 = S.A 102 ∧ T.I 3 10 = S.I 3 10 ∧ ((S.A (3 + 1) (s * 7 + iv_ww w) = iv_w0 w ∧ v = 0) ∨ (S.A (3 + 1) (s * 7 + iv_ww w) ≠ iv_w0 w ∧ ∃ a b, iv_bp (S.A 102) a ∧ iv_bp (mm_u (S.A 102) (3 + 7 * s + iv_ww w) (iv_wn w (S.A (3 + 1) (s * 7 + iv_ww w)))) b ∧ v = iv_wv a b)) := by
  obtain ⟨e, rfl⟩ : ∃ e, d = e + 1 := ⟨d - 1, by omega⟩
  obtain ⟨F, hF, he⟩ := mm_w119 E e B S c (mm_i s) (mm_i w)
  have hn := iv_nn h
  have eN := iv_N h
  have wr : 0 ≤ iv_ww w ∧ iv_ww w < 7 := by
    unfold iv_ww
    rcases (by omega : w = 0 ∨ w = 1 ∨ w = 2) with rfl | rfl | rfl <;> decide
  have w0r : -1 ≤ iv_w0 w ∧ iv_w0 w ≤ 0 := by
    unfold iv_w0
    rcases (by omega : w = 0 ∨ w = 1 ∨ w = 2) with rfl | rfl | rfl <;> decide
  have t := h.2.1.2.2.1.2.2.2.2 s p.1 (by omega)
  have tr : -1 ≤ S.A (3 + 1) (s * 7 + iv_ww w) ∧ S.A (3 + 1) (s * 7 + iv_ww w) ≤ 119 := by
    unfold pp_tR at t
    unfold iv_ww
    rcases (by omega : w = 0 ∨ w = 1 ∨ w = 2) with rfl | rfl | rfl
    · rw [if_pos rfl]; omega
    · rw [if_neg (by omega), if_pos rfl]; omega
    · rw [if_neg (by omega), if_neg (by omega)]; omega
  have c1 := c_told (E := E) (d := e) (B := B) (c := c) (S := S) (a := 3) (s := s) (w := iv_ww w) (by omega) (by omega) p.1 (by omega) wr.1 wr.2
  rw [mm_e119_0, iv_CS h (by omega) hs, if_pos p, iv_CW (by omega) hw (by omega), if_pos q] at he
  have k1 : mm_ev E (e + 1) 119 [.ref (mm_ad B 0), .int (mm_i s), .int (mm_i w)] (mm_hp B S c) = mm_r119_52 E (mm_ev E e) (F + 98) (mm_ad B 0) (mm_i s) (mm_i w) (mm_i (iv_ww w)) (mm_i (S.A (3 + 1) (s * 7 + iv_ww w))) none none none (mm_i (S.A (3 + 1) (s * 7 + iv_ww w))) (mm_i (iv_w0 w)) (mm_hp B S c) := by
    rw [he]
    simp (disch := omega) only [mm_br_eq]
    rcases (by omega : w = 0 ∨ w = 1 ∨ w = 2) with rfl | rfl | rfl
    · have a : iv_ww 0 = 0 := rfl
      rw [a] at c1 ⊢
      rw [if_pos rfl, mm_e119_29]
      simp (disch := omega) only [mm_ptP]
      rw [c1, mm_cI_ok, mm_br_t trivial]; rfl
    · have a : iv_ww 1 = 5 := rfl
      rw [a] at c1 ⊢
      rw [if_neg (by omega), if_pos rfl, mm_e119_29]
      simp (disch := omega) only [mm_ptP]
      rw [c1, mm_cI_ok, mm_br_eq (by omega) (by omega) (by omega) (by omega), if_neg (by omega)]; rfl
    · have a : iv_ww 2 = 6 := rfl
      rw [a] at c1 ⊢
      rw [if_neg (by omega), if_neg (by omega), mm_e119_29]
      simp (disch := omega) only [mm_ptP]
      rw [c1, mm_cI_ok, mm_br_eq (by omega) (by omega) (by omega) (by omega), if_neg (by omega)]; rfl
  rw [k1, mm_e119_52, mm_br_eq (by omega) (by omega) (by omega) (by omega)]
  by_cases z : S.A (3 + 1) (s * 7 + iv_ww w) = iv_w0 w
  · rw [if_pos z]
    exact ⟨S, 0, rfl, h, rfl, rfl, Or.inl ⟨z, rfl⟩⟩
  · rw [if_neg z]
    have ok := iv_wok h p.1 p.2 q.1 q.2 z
    have k2 : ∀ X : Int32 → mm_R, (mm_br (mm_i w = mm_i 0) (X (mm_i (S.A (3 + 1) (s * 7 + iv_ww w)) - mm_i 1)) (mm_br (mm_i w = mm_i 1) (X (mm_i (S.A (3 + 1) (s * 7 + iv_ww w)) + mm_i 1)) (X (mm_i (-1))))) = X (mm_i (iv_wn w (S.A (3 + 1) (s * 7 + iv_ww w)))) := fun X => by
      simp (disch := omega) only [mm_br_eq, mm_hm]
      unfold iv_wn
      rcases (by omega : w = 0 ∨ w = 1 ∨ w = 2) with rfl | rfl | rfl
      · rw [if_pos rfl, if_pos rfl]
      · rw [if_neg (by omega), if_pos rfl, if_neg (by omega), if_pos rfl]
      · rw [if_neg (by omega), if_neg (by omega), if_neg (by omega), if_neg (by omega)]
    rw [k2 (fun y => mm_r119_81 E (mm_ev E e) (F + 97) (mm_ad B 0) (mm_i s) (mm_i w) (mm_i (iv_ww w)) (mm_i (S.A (3 + 1) (s * 7 + iv_ww w))) none none none y (mm_hp B S c)), mm_e119_81]
    obtain ⟨T, a, a1, a2, a3, _⟩ := iv_cL (E := E) (d := e) (B := B) (by omega) h.2.1.1 h.2.1.2.1 h.2.1.2.2 c
    have hT := iv_FR h a1
    have eT := a1.2.1 102 (by omega) (by omega)
    have eI : T.I 3 10 = S.I 3 10 := by rw [a1.1]
    obtain ⟨U, b, b1, b2, b3, b4, b5⟩ := iv_pwC (E := E) (d := e) (B := B) hT (by omega) p.1 (by omega) wr.1 wr.2 ok.1 ok.2 c
    rw [eT] at b2
    have ra := iv_bp_r E S h.2.1.1 a2
    have rb := iv_bp_r E S (iv_rowu h.2.1.1 p.1 (by omega) wr.1 wr.2 ok.1 ok.2) b2
    refine ⟨U, iv_wv a b, ?_, b3, by rw [b4, eT], by omega, Or.inr ⟨z, a, b, a2, b2, rfl⟩⟩
    simp (disch := omega) only [mm_ptP]
    rw [a3, mm_cI_ok, b1, mm_cI_ok, mm_br_eq (by omega) (by omega) (by omega) (by omega), mm_br_eq (by omega) (by omega) (by omega) (by omega), mm_i_sub]
    unfold iv_wv
    by_cases z1 : a = -1
    · rw [if_pos z1, if_pos z1]
    · rw [if_neg z1, if_neg z1]
      by_cases z2 : b = -1
      · rw [if_pos z2, if_pos z2]
      · rw [if_neg z2, if_neg z2]
theorem i_lessM {a b : Int} (hd : 1 ≤ d) (ha : a = -1 ∨ (0 ≤ a ∧ a < 1000000000)) (hb : b = -1 ∨ (0 ≤ b ∧ b < 1000000000)) (c : mm_N) : mm_ev E d 206 [.ref (mm_ad B 101), .int (mm_i a), .int (mm_i b)] (mm_hp B S c) = mm_oI (iv_wv a b) (mm_hp B S c) := by
  refine mm_v206 hd (fun F e hF he => ?_)
  rw [mm_e206_0, mm_br_eq (by omega) (by omega) (by omega) (by omega), mm_br_eq (by omega) (by omega) (by omega) (by omega), mm_i_sub]
  unfold iv_wv
  by_cases z1 : a = -1
  · rw [if_pos z1, if_pos z1]
  · rw [if_neg z1, if_neg z1]
    by_cases z2 : b = -1
    · rw [if_pos z2, if_pos z2]
    · rw [if_neg z2, if_neg z2]
theorem i_worthM (h : iv S k) (hd : 22 ≤ d) {s w : Int} (hs : iv_n s) (hw : iv_n w) (p : 0 ≤ s ∧ s < S.I 3 10) (q : 0 ≤ w ∧ w < 3) (c : mm_N) : ∃ T v, mm_ev E d 207 [.ref (mm_ad B 101), .int (mm_i s), .int (mm_i w)] (mm_hp B S c) = mm_oI v (mm_hp B T c) ∧ iv T k ∧ T.I 101 0 = 0 ∧ T.L = S.L ∧ ((S.A (3 + 1) (s * 7 + iv_ww w) = iv_w0 w ∧ v = 0) ∨ (S.A (3 + 1) (s * 7 + iv_ww w) ≠ iv_w0 w ∧ ∃ a b, iv_bp (S.A 102) a ∧ iv_bp (mm_u (S.A 102) (3 + 7 * s + iv_ww w) (iv_wn w (S.A (3 + 1) (s * 7 + iv_ww w)))) b ∧ v = iv_wv a b)) := by
  obtain ⟨e, rfl⟩ : ∃ e, d = e + 1 := ⟨d - 1, by omega⟩
  obtain ⟨F, hF, he⟩ := mm_w207 E e B S c (mm_i s) (mm_i w)
  have hn := iv_nn h
  have eN := iv_N h
  have wr : 0 ≤ iv_ww w ∧ iv_ww w < 7 := by
    unfold iv_ww
    rcases (by omega : w = 0 ∨ w = 1 ∨ w = 2) with rfl | rfl | rfl <;> decide
  have w0r : -1 ≤ iv_w0 w ∧ iv_w0 w ≤ 0 := by
    unfold iv_w0
    rcases (by omega : w = 0 ∨ w = 1 ∨ w = 2) with rfl | rfl | rfl <;> decide
  have t := h.2.1.2.2.1.2.2.2.2 s p.1 (by omega)
  have tr : -1 ≤ S.A (3 + 1) (s * 7 + iv_ww w) ∧ S.A (3 + 1) (s * 7 + iv_ww w) ≤ 119 := by
    unfold pp_tR at t
    unfold iv_ww
    rcases (by omega : w = 0 ∨ w = 1 ∨ w = 2) with rfl | rfl | rfl
    · rw [if_pos rfl]; omega
    · rw [if_neg (by omega), if_pos rfl]; omega
    · rw [if_neg (by omega), if_neg (by omega)]; omega
  have c1 := c_of (E := E) (d := e) (B := B) (c := c) (S := S.sI 101 0 0) (s := s) (w := iv_ww w) (by omega) p.1 (by omega) wr.1 wr.2
  have t1 : (S.sI 101 0 0).A 102 (3 + 7 * s + iv_ww w) = S.A (3 + 1) (s * 7 + iv_ww w) := (iv_RL h).2.2.2.1 s (iv_ww w) p.1 p.2 wr.1 wr.2
  rw [t1] at c1
  have h0 := iv_sc h 0
  rw [mm_e207_0] at he
  simp (disch := omega) only [mm_ptM] at he
  rw [iv_MS h (by omega) hs, if_pos p, iv_MI (by omega) hw (by omega) (by omega), if_pos (by omega)] at he
  have k1 : mm_ev E (e + 1) 207 [.ref (mm_ad B 101), .int (mm_i s), .int (mm_i w)] (mm_hp B S c) = if S.A (3 + 1) (s * 7 + iv_ww w) = iv_w0 w then mm_oI 0 (mm_hp B (S.sI 101 0 0) c) else mm_r207_76 E (mm_ev E e) (F + 98) (mm_ad B 101) (mm_i s) (mm_i w) (mm_i (iv_ww w)) (mm_i (S.A (3 + 1) (s * 7 + iv_ww w))) (mm_hp B (S.sI 101 0 0) c) := by
    rw [he]
    simp (disch := omega) only [mm_br_eq]
    rcases (by omega : w = 0 ∨ w = 1 ∨ w = 2) with rfl | rfl | rfl
    · have a : iv_ww 0 = 0 := rfl
      have b : iv_w0 0 = 0 := rfl
      rw [a] at c1 tr ⊢
      rw [b]
      rw [if_pos rfl, mm_e207_47, c1, mm_cI_ok]
      rw [mm_br_t rfl, mm_br_eq (by omega) (by omega) (by omega) (by omega)]
    · have a : iv_ww 1 = 5 := rfl
      have b : iv_w0 1 = -1 := rfl
      rw [a] at c1 tr ⊢
      rw [b]
      rw [if_neg (by omega), if_pos rfl, mm_e207_47, c1, mm_cI_ok]
      rw [mm_br_eq (by omega) (by omega) (by omega) (by omega), if_neg (by omega), mm_br_eq (by omega) (by omega) (by omega) (by omega)]
    · have a : iv_ww 2 = 6 := rfl
      have b : iv_w0 2 = -1 := rfl
      rw [a] at c1 tr ⊢
      rw [b]
      rw [if_neg (by omega), if_neg (by omega), mm_e207_47, c1, mm_cI_ok]
      rw [mm_br_eq (by omega) (by omega) (by omega) (by omega), if_neg (by omega), mm_br_eq (by omega) (by omega) (by omega) (by omega)]
  rw [k1]
  by_cases z : S.A (3 + 1) (s * 7 + iv_ww w) = iv_w0 w
  · rw [if_pos z]
    exact ⟨S.sI 101 0 0, 0, rfl, h0, mm_gs.1 _ _ _ _, rfl, Or.inl ⟨z, rfl⟩⟩
  · rw [if_neg z]
    have ok := iv_wok h p.1 p.2 q.1 q.2 z
    obtain ⟨T, a, a1, a2, ra, a3⟩ := iv_mL (E := E) (d := e) (B := B) (S := S.sI 101 0 0) (f := S.A 102) (by omega) rfl h.2.1.1 c
    have hT := iv_PG h0 a1
    have eT : T.A 102 = S.A 102 := a1.2.2.2 102 (by omega)
    have eI : T.I 3 10 = S.I 3 10 := a1.1 3 10 (by omega)
    have e0 : T.I 101 0 = 0 := a1.1 101 0 (by omega)
    obtain ⟨U, b, b1, b2, rb, b3, b4, b5, b6⟩ := iv_pwM (E := E) (d := e) (B := B) hT (by omega) p.1 (by omega) wr.1 wr.2 ok.1 ok.2 c
    rw [eT] at b2
    refine ⟨U, iv_wv a b, ?_, b3, by rw [b5, e0], by rw [b4]; exact a1.2.2.1, Or.inr ⟨z, a, b, a2, b2, rfl⟩⟩
    have l := i_lessM (E := E) (d := e) (B := B) (S := U) (a := a) (b := b) (by omega) ra rb c
    rw [mm_e207_76, a3, mm_cI_ok]
    rcases (by omega : w = 0 ∨ w = 1 ∨ w = 2) with rfl | rfl | rfl
    · have n : iv_wn 0 (S.A (3 + 1) (s * 7 + iv_ww 0)) = S.A (3 + 1) (s * 7 + iv_ww 0) - 1 := rfl
      rw [n] at b1
      rw [mm_br_t rfl, mm_i_sub, b1, mm_cI_ok, l, mm_cI_ok]
    · have n : iv_wn 1 (S.A (3 + 1) (s * 7 + iv_ww 1)) = S.A (3 + 1) (s * 7 + iv_ww 1) + 1 := rfl
      rw [n] at b1
      rw [mm_br_eq (by omega) (by omega) (by omega) (by omega), if_neg (by omega), mm_br_t rfl, mm_i_add, b1, mm_cI_ok, l, mm_cI_ok]
    · have n : iv_wn 2 (S.A (3 + 1) (s * 7 + iv_ww 2)) = -1 := rfl
      rw [n] at b1
      rw [mm_br_eq (by omega) (by omega) (by omega) (by omega), if_neg (by omega), mm_br_eq (by omega) (by omega) (by omega) (by omega), if_neg (by omega), b1, mm_cI_ok, l, mm_cI_ok]
theorem i_worth (h : iv S k) (hd : 22 ≤ d) {s w : Int} (hs : iv_n s) (hw : iv_n w) : iv_ok E B d S k 119 [.ref (mm_ad B 0), .int (mm_i s), .int (mm_i w)] 207 [.ref (mm_ad B 101), .int (mm_i s), .int (mm_i w)] iv_c1 := by
  have w1 := hw.1
  have w2 := hw.2
  by_cases p : (0 ≤ s ∧ s < S.I 3 10) ∧ (0 ≤ w ∧ w < 3)
  · intro c
    obtain ⟨T, v, t1, t2, t3, t4, t5⟩ := i_worthC (E := E) (d := d) (B := B) h (by omega) hs hw p.1 p.2 c
    refine ⟨T, Or.inl ⟨v, t1, fun o => ?_⟩⟩
    obtain ⟨U, u, u1, u2, u3, u4, u5⟩ := i_worthM (E := E) (d := d) (B := B) (S := T.sL 123 o) (iv_sL t2 o) hd hs hw (by show 0 ≤ s ∧ s < T.I 3 10; omega) p.2 c
    have wr : 0 ≤ iv_ww w ∧ iv_ww w < 7 := by
      unfold iv_ww
      rcases (by omega : w = 0 ∨ w = 1 ∨ w = 2) with rfl | rfl | rfl <;> decide
    have te : (T.sL 123 o).A (3 + 1) (s * 7 + iv_ww w) = S.A (3 + 1) (s * 7 + iv_ww w) := by
      have e1 := (iv_RL t2).2.2.2.1 s (iv_ww w) p.1.1 (by omega) wr.1 wr.2
      have e2 := (iv_RL h).2.2.2.1 s (iv_ww w) p.1.1 p.1.2 wr.1 wr.2
      rw [t3, e2] at e1
      exact e1.symm
    have ae : (T.sL 123 o).A 102 = S.A 102 := t3
    rw [te, ae] at u5
    have vu : v = u := by
      rcases t5 with ⟨x1, x2⟩ | ⟨x1, a, b, x2, x3, x4⟩
      · rcases u5 with ⟨y1, y2⟩ | ⟨y1, _⟩
        · omega
        · exact absurd x1 y1
      · rcases u5 with ⟨y1, y2⟩ | ⟨y1, a', b', y2, y3, y4⟩
        · exact absurd y1 x1
        · rw [x4, y4, iv_bp_one x2 y2, iv_bp_one x3 y3]
    exact ⟨U, by rw [u1, vu], u3, by rw [u4]; simp only [mm_gs], iv_up u2 (by omega)⟩
  · refine iv_thr h 0 (by decide) (fun c => mm_v119 (by omega) (fun F e hF he => ?_)) (fun c => ⟨0, mm_v207 (by omega) (fun F e hF he => ?_)⟩)
    · rw [mm_e119_0, iv_CS h (by omega) hs]
      by_cases p1 : 0 ≤ s ∧ s < S.I 3 10
      · rw [if_pos p1, iv_CW (by omega) hw (by omega), if_neg (fun z => p ⟨p1, z⟩)]
      · rw [if_neg p1]
    · rw [mm_e207_0]
      simp (disch := omega) only [mm_ptM]
      rw [iv_MS h (by omega) hs]
      by_cases p1 : 0 ≤ s ∧ s < S.I 3 10
      · rw [if_pos p1, iv_MI (by omega) hw (by omega) (by omega), if_neg (fun z => p ⟨p1, by omega⟩), iv_MF (by omega)]; rfl
      · rw [if_neg p1, iv_MF (by omega)]; rfl
end
