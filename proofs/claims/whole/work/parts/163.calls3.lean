/-! BOUND, PROMISE, DEMAND, PLANNED, PLAN -/
section
variable {E : mm_E} {d B : Nat} {S : mm_S} {k : Nat}
theorem iv_td {T : mm_S} (h : iv S k) (hI : ∀ x k, iv_rI x k → T.I x k = S.I x k) (hA : ∀ x, iv_rA x → x ≠ 8 → x ≠ 9 → x ≠ 105 → x ≠ 106 → T.A x = S.A x) (ht : iv_TD (S.I 3 10) (T.A 8) (T.A 105) (T.A 9) (T.A 106)) : iv T k := by
  have g : iv ((((S.sA 8 (T.A 8)).sA 9 (T.A 9)).sA 105 (T.A 105)).sA 106 (T.A 106)) k := ⟨h.1, h.2.1, ht, h.2.2.2.1, h.2.2.2.2.1, h.2.2.2.2.2.1, h.2.2.2.2.2.2.1, h.2.2.2.2.2.2.2.1, h.2.2.2.2.2.2.2.2.1, h.2.2.2.2.2.2.2.2.2⟩
  refine iv_fr g hI (fun x hx => ?_)
  by_cases e6 : x = 106
  · rw [e6, mm_gs.2.2.2.2.2.2.2.2.1]
  rw [mm_gA_ne e6]
  by_cases e5 : x = 105
  · rw [e5, mm_gs.2.2.2.2.2.2.2.2.1]
  rw [mm_gA_ne e5]
  by_cases e9 : x = 9
  · rw [e9, mm_gs.2.2.2.2.2.2.2.2.1]
  rw [mm_gA_ne e9]
  by_cases e8 : x = 8
  · rw [e8, mm_gs.2.2.2.2.2.2.2.2.1]
  rw [mm_gA_ne e8]
  exact hA x hx e8 e9 e5 e6
theorem iv_C2 {J : Nat} {as : List Value} {V : Int} {P Q : Prop} [Decidable P] [Decidable Q] {K : Nat} {bs : List Value} {S1 : mm_S} (hi : iv S k) (h : ∀ c : mm_N, mm_ev E d J as (mm_hp B S c) = if P then (if Q then mm_oI V (mm_hp B S1 c) else pp_th 1 S c B) else pp_th 0 S c B) (h1 : P → Q → ∀ (o : Int → Int) c, ∃ S2, mm_ev E d K bs (mm_hp B (S1.sL 123 o) c) = mm_oI V (mm_hp B S2 c) ∧ S2.I 101 0 = 0 ∧ S2.L 123 = o ∧ iv S2 (k + 1)) (h2 : P → ¬ Q → ∀ c, ∃ b, mm_ev E d K bs (mm_hp B S c) = mm_oI b (mm_hp B (S.sI 101 0 2) c)) (h3 : ¬ P → ∀ c, ∃ b, mm_ev E d K bs (mm_hp B S c) = mm_oI b (mm_hp B (S.sI 101 0 1) c)) : iv_ok E B d S k J as K bs iv_c2 := by
  by_cases p : P
  · by_cases q : Q
    · exact fun c => ⟨S1, Or.inl ⟨V, by rw [h, if_pos p, if_pos q], fun o => h1 p q o c⟩⟩
    · exact iv_thr hi 1 (by decide) (fun c => by rw [h, if_pos p, if_neg q]) (h2 p q)
  · exact iv_thr hi 0 (by decide) (fun c => by rw [h, if_neg p]) (h3 p)
theorem iv_MSr (hn : 0 ≤ S.A 102 0 ∧ S.A 102 0 ≤ 12) (hd : 2 ≤ d) {s : Int} (hs : iv_n s) (c : mm_N) (X : mm_H → mm_R) (Y : mm_H → mm_R) : mm_cI [] (mm_ev E d 151 [.ref (mm_ad B 101), .int (mm_i s)] (mm_hp B S c)) (fun w H => mm_br (w = mm_i 0) (X H) (Y H)) = if 0 ≤ s ∧ s < S.A 102 0 then Y (mm_hp B S c) else X (mm_hp B S c) := by
  rw [c_isStageM hd hs.1 hs.2 hn.1 hn.2, mm_cI_ok, mm_br_b1]
  by_cases p : 0 ≤ s ∧ s < S.A 102 0
  · rw [if_pos p, if_pos (decide_eq_true (by omega))]
  · rw [if_neg p, if_neg (fun z => p (by have := of_decide_eq_true z; omega))]
-- bound
noncomputable def iv_bnd (S : mm_S) (s w n : Int) : Int := if w = 0 then pp_rt (pp_qd (S.I 3 11) (S.A (3 + 9) s) n) else n * S.A (3 + 8) s + pp_rt (pp_qd (S.I 3 11) (S.A (3 + 9) s) n)
theorem i_boundM (h : iv S k) (hd : 18 ≤ d) {s w n : Int} (hs : iv_n s) (hw : iv_n w) (hn : iv_n n) (c : mm_N) : mm_ev E d 167 [.ref (mm_ad B 101), .int (mm_i s), .int (mm_i w), .int (mm_i n)] (mm_hp B S c) = if (0 ≤ s ∧ s < S.I 3 10) ∧ (0 ≤ w ∧ w < 2) then (if 0 ≤ n ∧ n ≤ 999 then mm_oI (iv_bnd S s w n) (mm_hp B (S.sI 101 0 0) c) else mm_oI 0 (mm_hp B (S.sI 101 0 2) c)) else mm_oI 0 (mm_hp B (S.sI 101 0 1) c) := by
  have nn := iv_nn h
  have w1 := hw.1
  have w2 := hw.2
  refine mm_v167 (by omega) (fun F e hF he => ?_)
  have z : ∀ (m : Nat) (v : Int), 0 < v → v ≤ 2 → mm_r167_38 E (mm_ev E e) (m + 1) (mm_ad B 101) (mm_i s) (mm_i w) (mm_i n) (mm_ad B 101) (mm_i v) (mm_hp B S c) = mm_oI 0 (mm_hp B (S.sI 101 0 v) c) := fun m v v1 v2 => by
    rw [mm_e167_38]
    simp (disch := omega) only [mm_ptM, mm_gs, mm_br_le]
    rw [if_neg (by omega)]
  rw [mm_e167_0, iv_MS0 h (by omega) hs]
  by_cases p : 0 ≤ s ∧ s < S.I 3 10
  · rw [if_pos p, iv_MI (by omega) hw (by omega) (by omega)]
    by_cases q : 0 ≤ w ∧ w < 2
    · rw [if_pos (by omega), if_pos ⟨p, q⟩, iv_MI (by omega) hn (by omega) (by omega)]
      by_cases r : 0 ≤ n ∧ n ≤ 999
      · have c1 := m_root (E := E) (d := e) (B := B) (c := c) (S := S.sI 101 0 0) (a := 3) h.2.1.2.2 (iv_RL h) (by omega) p.1 p.2 r
        have c2 := m_bound (E := E) (d := e) (B := B) (c := c) (S := S.sI 101 0 0) (a := 3) h.2.1.2.2 (iv_RL h) (by omega) p.1 p.2 r
        rw [if_pos r, if_pos r, mm_e167_38]
        simp (disch := omega) only [mm_ptM, mm_gs, mm_br_le, mm_br_eq]
        rw [if_pos (by omega), c1, c2, mm_cI_ok, mm_cI_ok]
        unfold iv_bnd
        by_cases e0 : w = 0
        · rw [if_pos e0, if_pos e0]; rfl
        · rw [if_neg e0, if_neg e0]; rfl
      · rw [if_neg r, if_neg r, z _ 2 (by omega) (by omega)]
    · rw [if_neg (by omega), if_neg (show ¬ ((0 ≤ s ∧ s < S.I 3 10) ∧ (0 ≤ w ∧ w < 2)) from fun z => q z.2), z _ 1 (by omega) (by omega)]
  · rw [if_neg p, if_neg (show ¬ ((0 ≤ s ∧ s < S.I 3 10) ∧ (0 ≤ w ∧ w < 2)) from fun z => p z.1), z _ 1 (by omega) (by omega)]
theorem i_bound (h : iv S k) (hd : 18 ≤ d) {s w n : Int} (hs : iv_n s) (hw : iv_n w) (hn : iv_n n) : iv_ok E B d S k 108 [.ref (mm_ad B 0), .int (mm_i s), .int (mm_i w), .int (mm_i n)] 167 [.ref (mm_ad B 101), .int (mm_i s), .int (mm_i w), .int (mm_i n)] iv_c2 := by
  have nn := iv_nn h
  have w1 := hw.1
  have w2 := hw.2
  have n1 := hn.1
  have n2 := hn.2
  refine iv_C2 h (P := (0 ≤ s ∧ s < S.I 3 10) ∧ (0 ≤ w ∧ w < 2)) (Q := 0 ≤ n ∧ n ≤ 999) (V := iv_bnd S s w n) (S1 := S) (fun c => ?_) (fun p q o c => ?_) (fun p q c => ⟨0, ?_⟩) (fun p c => ⟨0, ?_⟩)
  · refine mm_v108 (by omega) (fun F e hF he => ?_)
    rw [mm_e108_0, iv_CS h (by omega) hs]
    by_cases p : 0 ≤ s ∧ s < S.I 3 10
    · rw [if_pos p, iv_CW (by omega) hw (by omega)]
      by_cases q : 0 ≤ w ∧ w < 2
      · rw [if_pos q, if_pos ⟨p, q⟩]
        simp (disch := omega) only [mm_br_lt, mm_br_le, mm_br_eq, mm_ptP, mm_ptN]
        by_cases r : 0 ≤ n ∧ n ≤ 999
        · have hz := h.2.1.2.2.1.2.1
          have hW := pp_NT_wd h.2.1.2.2 p.1 p.2
          have c1 := c_rootBy (E := E) (d := e) (B := B) (c := c) (S := S) (a := 3) (by omega) (by omega) hz p.1 (by omega) (by omega) r
          have c2 := c_boundBy (E := E) (d := e) (B := B) (c := c) (S := S) (a := 3) (by omega) (by omega) hz p.1 (by omega) (by omega) r
          rw [if_neg (by omega), if_pos r.2, if_pos r, c1, c2, mm_cI_ok, mm_cI_ok]
          unfold iv_bnd
          by_cases e0 : w = 0
          · rw [if_pos e0, if_pos e0]
          · rw [if_neg e0, if_neg e0]
        · rw [if_neg r]
          by_cases r1 : n < 0
          · rw [if_pos r1]; rfl
          · rw [if_neg r1, if_neg (by omega)]; rfl
      · rw [if_neg q, if_neg (fun z => q z.2)]
    · rw [if_neg p, if_neg (fun z => p z.1)]
  · have g := i_boundM (E := E) (d := d) (B := B) (iv_sL h o) hd hs hw hn c
    exact ⟨(S.sL 123 o).sI 101 0 0, g.trans ((if_pos p).trans (if_pos q)), mm_gs.1 _ _ _ _, rfl, iv_up (iv_sc (iv_sL h o) 0) (by omega)⟩
  · rw [i_boundM h hd hs hw hn, if_pos p, if_neg q]
  · rw [i_boundM h hd hs hw hn, if_neg p]
-- promise
theorem iv_TDt {n s v : Int} {t t' e e' : Int → Int} (h : iv_TD n t t' e e') (s0 : 0 ≤ s) (s1 : s < n) (v0 : 0 ≤ v ∧ v ≤ 119) : iv_TD n (mm_u t s v) (mm_u t' s v) e e' := ⟨fun x x0 x1 => by
  have g := h.1 x x0 x1
  by_cases y : x = s
  · rw [y, mm_u_eq, mm_u_eq]
    exact ⟨rfl, v0.1, v0.2, fun z => by omega⟩
  · rw [mm_u_ne y, mm_u_ne y]
    exact g, h.2⟩
theorem iv_TDd {n i v : Int} {t t' e e' : Int → Int} (h : iv_TD n t t' e e') (s0 : 0 ≤ i) (s1 : i < n * 40) (v0 : 0 ≤ v ∧ v ≤ 999) : iv_TD n t t' (mm_u e i v) (mm_u e' i v) := ⟨h.1, fun x x0 x1 => by
  have g := h.2 x x0 x1
  by_cases y : x = i
  · rw [y, mm_u_eq, mm_u_eq]
    exact ⟨rfl, v0.1, v0.2, fun z => by omega⟩
  · rw [mm_u_ne y, mm_u_ne y]
    exact g⟩
theorem i_promise (h : iv S k) (hd : 4 ≤ d) {s t : Int} (hs : iv_n s) (ht : iv_n t) : iv_ok E B d S k 115 [.ref (mm_ad B 0), .int (mm_i s), .int (mm_i t)] 187 [.ref (mm_ad B 101), .int (mm_i s), .int (mm_i t)] iv_c2 := by
  have nn := iv_nn h
  have t1 := ht.1
  have t2 := ht.2
  have z : ∀ (e m : Nat) (v : Int) (c : mm_N), 0 < v → v ≤ 2 → mm_r187_28 E (mm_ev E e) (m + 1) (mm_ad B 101) (mm_i s) (mm_i t) none (mm_ad B 101) (mm_i v) (mm_hp B S c) = mm_oI 0 (mm_hp B (S.sI 101 0 v) c) := fun e m v c v1 v2 => by
    rw [mm_e187_28]
    simp (disch := omega) only [mm_ptM, mm_gs, mm_br_le]
    rw [if_neg (by omega)]
  refine iv_C2 h (P := 0 ≤ s ∧ s < S.I 3 10) (Q := 0 ≤ t ∧ t ≤ 119) (V := S.A 8 s) (S1 := S.sA 8 (mm_u (S.A 8) s t)) (fun c => ?_) (fun p q o c => ?_) (fun p q c => ⟨0, ?_⟩) (fun p c => ⟨0, ?_⟩)
  · refine mm_v115 (by omega) (fun F e hF he => ?_)
    rw [mm_e115_0, iv_CS h (by omega) hs]
    by_cases p : 0 ≤ s ∧ s < S.I 3 10
    · rw [if_pos p, if_pos p, c_checkTime (by omega) t1 t2]
      by_cases q : 0 ≤ t ∧ t ≤ 119
      · rw [if_pos (by omega), if_pos q, mm_cV_ok]
        simp (disch := omega) only [mm_ptP, mm_ptN, mm_gs]
      · rw [if_neg (by omega), if_neg q, iv_Vth]
    · rw [if_neg p, if_neg p]
  · have e1 := (h.2.2.1.1 s p.1 (by omega)).1
    refine ⟨((((S.sA 8 (mm_u (S.A 8) s t)).sL 123 o).sI 101 0 0).sA 105 (mm_u (S.A 105) s t)), mm_v187 (by omega) (fun F e hF he => ?_), mm_gs.1 _ _ _ _, rfl, iv_up (iv_td h (fun x k hx => ?_) (fun x hx x8 x9 x5 x6 => ?_) ?_) (by omega)⟩
    · have eN := iv_N h
      have en : ((S.sA 8 (mm_u (S.A 8) s t)).sL 123 o).A 102 0 = S.I 3 10 := eN
      rw [mm_e187_0, iv_MSr (by omega) (by omega) hs, if_pos (by omega), iv_MI (by omega) ht (by omega) (by omega), if_pos q, mm_e187_28]
      simp (disch := omega) only [mm_ptM, mm_gs, mm_br_le, pp_ne]
      rw [if_pos (by omega), e1]
    · unfold iv_rI at hx
      exact mm_gI_ne (by omega)
    · simp (disch := omega) only [mm_gs, pp_ne, mm_gA_ne]
    · exact iv_TDt h.2.2.1 p.1 p.2 q
  · refine mm_v187 (by omega) (fun F e hF he => ?_)
    rw [mm_e187_0, iv_MS0 h (by omega) hs, if_pos p, iv_MI (by omega) ht (by omega) (by omega), if_neg q, z _ _ 2 c (by omega) (by omega)]
  · refine mm_v187 (by omega) (fun F e hF he => ?_)
    rw [mm_e187_0, iv_MS0 h (by omega) hs, if_neg p, z _ _ 1 c (by omega) (by omega)]
end
