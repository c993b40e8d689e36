/-! MORE SMALL CALLS -/
section
variable {E : mm_E} {d B : Nat} {S : mm_S} {k : Nat}
theorem iv_Vth {x : Nat} {c : mm_N} {κ : mm_H → mm_R} : mm_cV [] (pp_th x S c B) κ = pp_th x S c B := (rfl)
theorem iv_Ith {x : Nat} {c : mm_N} {κ : Int32 → mm_H → mm_R} : mm_cI [] (pp_th x S c B) κ = pp_th x S c B := (rfl)
theorem iv_CS (h : iv S k) (hd : 2 ≤ d) {s : Int} (hs : iv_n s) (c : mm_N) (κ : mm_H → mm_R) : mm_cV [] (mm_ev E d 133 [.ref (mm_ad B 0), .int (mm_i s)] (mm_hp B S c)) κ = if 0 ≤ s ∧ s < S.I 3 10 then κ (mm_hp B S c) else pp_th 0 S c B := by
  rw [c_checkStage hd hs.1 hs.2 (iv_nn h)]
  by_cases p : 0 ≤ s ∧ s < S.I 3 10
  · rw [if_pos p, if_pos p, mm_cV_ok]
  · rw [if_neg p, if_neg p, iv_Vth]
theorem iv_CW (hd : 1 ≤ d) {w m : Int} (hw : iv_n w) (hm : 0 ≤ m ∧ m ≤ 1000) (c : mm_N) (κ : mm_H → mm_R) : mm_cV [] (mm_ev E d 134 [.int (mm_i w), .int (mm_i m)] (mm_hp B S c)) κ = if 0 ≤ w ∧ w < m then κ (mm_hp B S c) else pp_th 0 S c B := by
  rw [c_checkWhat hd hw.1 hw.2 hm]
  by_cases p : 0 ≤ w ∧ w < m
  · rw [if_pos p, if_pos p, mm_cV_ok]
  · rw [if_neg p, if_neg p, iv_Vth]
/-- the model's isStage, then isIn -/
theorem iv_MS (h : iv S k) (hd : 2 ≤ d) {s : Int} (hs : iv_n s) (v : Int) (c : mm_N) (X : mm_H → mm_R) (Y : mm_H → mm_R) : mm_cI [] (mm_ev E d 151 [.ref (mm_ad B 101), .int (mm_i s)] (mm_hp B (S.sI 101 0 v) c)) (fun w H => mm_br (w = mm_i 0) (X H) (Y H)) = if 0 ≤ s ∧ s < S.I 3 10 then Y (mm_hp B (S.sI 101 0 v) c) else X (mm_hp B (S.sI 101 0 v) c) := by
  have e : (S.sI 101 0 v).I 3 10 = S.I 3 10 := mm_gI_ne (by omega)
  rw [iv_isS (iv_sc h v) hd hs, mm_cI_ok, mm_br_b1, e]
  by_cases p : 0 ≤ s ∧ s < S.I 3 10
  · rw [if_pos p, if_pos (decide_eq_true p)]
  · rw [if_neg p, if_neg (fun z => p (of_decide_eq_true z))]
theorem iv_MS0 (h : iv S k) (hd : 2 ≤ d) {s : Int} (hs : iv_n s) (c : mm_N) (X : mm_H → mm_R) (Y : mm_H → mm_R) : mm_cI [] (mm_ev E d 151 [.ref (mm_ad B 101), .int (mm_i s)] (mm_hp B S c)) (fun w H => mm_br (w = mm_i 0) (X H) (Y H)) = if 0 ≤ s ∧ s < S.I 3 10 then Y (mm_hp B S c) else X (mm_hp B S c) := by
  rw [iv_isS h hd hs, mm_cI_ok, mm_br_b1]
  by_cases p : 0 ≤ s ∧ s < S.I 3 10
  · rw [if_pos p, if_pos (decide_eq_true p)]
  · rw [if_neg p, if_neg (fun z => p (of_decide_eq_true z))]
theorem iv_MI (hd : 1 ≤ d) {w x y : Int} (hw : iv_n w) (hx : -2147483648 ≤ x ∧ x < 2147483648) (hy : -2147483648 ≤ y ∧ y < 2147483648) (c : mm_N) (X : mm_H → mm_R) (Y : mm_H → mm_R) : mm_cI [] (mm_ev E d 147 [.int (mm_i w), .int (mm_i x), .int (mm_i y)] (mm_hp B S c)) (fun w H => mm_br (w = mm_i 0) (X H) (Y H)) = if x ≤ w ∧ w ≤ y then Y (mm_hp B S c) else X (mm_hp B S c) := by
  rw [c_isIn hd hw.1 hw.2 hx.1 hx.2 hy.1 hy.2, mm_cI_ok, mm_br_b1]
  by_cases p : x ≤ w ∧ w ≤ y
  · rw [if_pos p, if_pos (decide_eq_true p)]
  · rw [if_neg p, if_neg (fun z => p (of_decide_eq_true z))]
theorem iv_MF (hd : 1 ≤ d) (u v : Int) (c : mm_N) : mm_cI [] (mm_ev E d 146 [.ref (mm_ad B 101), .int (mm_i v)] (mm_hp B (S.sI 101 0 u) c)) (fun w H => some (.inl (some (.int w)), H)) = mm_oI 0 (mm_hp B (S.sI 101 0 v) c) := by
  rw [c_fail hd, mm_cI_ok, iv_s2]
-- letter
theorem i_letter (h : iv S k) (hd : 3 ≤ d) {s i : Int} (hs : iv_n s) (hi : iv_n i) : iv_ok E B d S k 106 [.ref (mm_ad B 0), .int (mm_i s), .int (mm_i i)] 169 [.ref (mm_ad B 101), .int (mm_i s), .int (mm_i i)] iv_c1 := by
  have hn := iv_nn h
  have i1 := hi.1
  have i2 := hi.2
  refine iv_C h (x := 0) (P := (0 ≤ s ∧ s < S.I 3 10) ∧ (0 ≤ i ∧ i < 6)) (V := S.A 5 (s * 6 + i)) (by decide) (fun c => ?_) (fun p o c => ?_) (fun p c => ⟨0, ?_⟩)
  · refine mm_v106 (by omega) (fun F e hF he => ?_)
    rw [mm_e106_0, iv_CS h (by omega) hs]
    by_cases p : 0 ≤ s ∧ s < S.I 3 10
    · rw [if_pos p]
      simp (disch := omega) only [mm_br_lt]
      by_cases q : 0 ≤ i ∧ i < 6
      · rw [if_neg (by omega), if_pos (by omega), if_pos ⟨p, q⟩]
        simp (disch := omega) only [mm_ptP, mm_ptN, mm_hm]
      · rw [if_neg (show ¬ ((0 ≤ s ∧ s < S.I 3 10) ∧ (0 ≤ i ∧ i < 6)) from fun z => q z.2)]
        by_cases q1 : i < 0
        · rw [if_pos q1]; rfl
        · rw [if_neg q1, if_neg (by omega)]; rfl
    · rw [if_neg p, if_neg (fun z => p z.1)]
  · refine mm_v169 (by omega) (fun F e hF he => ?_)
    rw [mm_e169_0]
    simp (disch := omega) only [mm_ptM]
    rw [iv_MS (iv_sL h o) (by omega) hs]
    rw [if_pos (show 0 ≤ s ∧ s < (S.sL 123 o).I 3 10 from p.1), iv_MI (by omega) hi (by omega) (by omega), if_pos (by omega), mm_e169_22]
    have e := (iv_RL h).2.2.2.2.2.1 s i p.1.1 p.1.2 p.2.1 p.2.2
    simp (disch := omega) only [mm_ptM, mm_hm, mm_gs]
    rw [e]
  · refine mm_v169 (by omega) (fun F e hF he => ?_)
    rw [mm_e169_0]
    simp (disch := omega) only [mm_ptM]
    rw [iv_MS h (by omega) hs]
    have z : ∀ n, mm_r169_39 E (mm_ev E e) (n + 1) (mm_ad B 101) (mm_i s) (mm_i i) (mm_hp B (S.sI 101 0 0) c) = mm_oI 0 (mm_hp B (S.sI 101 0 1) c) := fun n => by rw [mm_e169_39, iv_MF (by omega)]
    by_cases p1 : 0 ≤ s ∧ s < S.I 3 10
    · rw [if_pos p1, iv_MI (by omega) hi (by omega) (by omega), if_neg (by omega), z]; rfl
    · rw [if_neg p1, z]; rfl
-- stage
noncomputable def iv_stg (S : mm_S) (s w : Int) : Int := if w = 7 then S.A (3 + 8) s else if w = 8 then S.A (3 + 9) s else if w = 9 then S.A (3 + 10) s else if w = 10 then S.A (3 + 3) s else if w = 11 then S.A (3 + 4) s else S.A (3 + 1) (s * 7 + w)
theorem i_stageM (h : iv S k) (hd : 17 ≤ d) {s w : Int} (hs : iv_n s) (hw : iv_n w) (c : mm_N) : mm_ev E d 170 [.ref (mm_ad B 101), .int (mm_i s), .int (mm_i w)] (mm_hp B S c) = if (0 ≤ s ∧ s < S.I 3 10) ∧ (0 ≤ w ∧ w < 12) then mm_oI (iv_stg S s w) (mm_hp B (S.sI 101 0 0) c) else mm_oI 0 (mm_hp B (S.sI 101 0 1) c) := by
  have hn := iv_nn h
  have w1 := hw.1
  have w2 := hw.2
  have hR := iv_RL h
  have hT := h.2.1.2.2
  have hQ := h.2.1.2.1
  refine mm_v170 (by omega) (fun F e hF he => ?_)
  rw [mm_e170_0]
  simp (disch := omega) only [mm_ptM]
  rw [iv_MS h (by omega) hs]
  by_cases p : 0 ≤ s ∧ s < S.I 3 10
  · rw [if_pos p, iv_MI (by omega) hw (by omega) (by omega)]
    by_cases q : 0 ≤ w ∧ w < 12
    · have q3 := hQ.2.2.1 s p.1 (by omega)
      have c1 := m_flow (E := E) (d := e) (B := B) (c := c) (S := S.sI 101 0 0) (a := 3) hT hR (by omega) p.1 p.2
      have c2 := m_width (E := E) (d := e) (B := B) (c := c) (S := S.sI 101 0 0) (a := 3) hT hR (by omega) p.1 p.2
      have c3 := m_longest (E := E) (d := e) (B := B) (c := c) (S := S.sI 101 0 0) (a := 3) hT hR (by omega) p.1 p.2
      have c4 := c_suppliersOf (E := E) (d := e) (B := B) (c := c) (S := S.sI 101 0 0) (s := s) (by omega) hR.2.2.1 (by omega) (by omega)
      have c5 := c_customersOf (E := E) (d := e) (B := B) (c := c) (S := S.sI 101 0 0) (s := s) (by omega) hR.2.2.1 (by omega) (by omega)
      rw [if_pos (by omega), if_pos ⟨p, q⟩, c1, c2, c3, c4, c5]
      simp (disch := omega) only [mm_br_eq, mm_cI_ok]
      unfold iv_stg
      by_cases e7 : w = 7
      · rw [if_pos e7, if_pos e7]; rfl
      rw [if_neg e7, if_neg e7]
      by_cases e8 : w = 8
      · rw [if_pos e8, if_pos e8]; rfl
      rw [if_neg e8, if_neg e8]
      by_cases e9 : w = 9
      · rw [if_pos e9, if_pos e9]; rfl
      rw [if_neg e9, if_neg e9]
      by_cases e10 : w = 10
      · rw [if_pos e10, if_pos e10, q3.1]; rfl
      rw [if_neg e10, if_neg e10]
      by_cases e11 : w = 11
      · rw [if_pos e11, if_pos e11, q3.2]; rfl
      rw [if_neg e11, if_neg e11, c_of (by omega) p.1 (by omega) q.1 (by omega), mm_cI_ok, ← hR.2.2.2.1 s w p.1 p.2 q.1 (by omega)]
      rfl
    · rw [if_neg (by omega), if_neg (fun z => q z.2), iv_MF (by omega)]
  · rw [if_neg p, if_neg (fun z => p z.1), iv_MF (by omega)]
theorem i_stage (h : iv S k) (hd : 17 ≤ d) {s w : Int} (hs : iv_n s) (hw : iv_n w) : iv_ok E B d S k 107 [.ref (mm_ad B 0), .int (mm_i s), .int (mm_i w)] 170 [.ref (mm_ad B 101), .int (mm_i s), .int (mm_i w)] iv_c1 := by
  have hn := iv_nn h
  have w1 := hw.1
  have w2 := hw.2
  refine iv_C h (x := 0) (P := (0 ≤ s ∧ s < S.I 3 10) ∧ (0 ≤ w ∧ w < 12)) (V := iv_stg S s w) (by decide) (fun c => ?_) (fun p o c => ?_) (fun p c => ⟨0, ?_⟩)
  · refine mm_v107 (by omega) (fun F e hF he => ?_)
    rw [mm_e107_0, iv_CS h (by omega) hs]
    by_cases p : 0 ≤ s ∧ s < S.I 3 10
    · rw [if_pos p, iv_CW (by omega) hw (by omega)]
      by_cases q : 0 ≤ w ∧ w < 12
      · rw [if_pos q, if_pos ⟨p, q⟩]
        unfold iv_stg
        simp (disch := omega) only [mm_br_eq, mm_ptP, mm_ptN]
        by_cases e7 : w = 7
        · rw [if_pos e7, if_pos e7]
        rw [if_neg e7, if_neg e7]
        by_cases e8 : w = 8
        · rw [if_pos e8, if_pos e8]
        rw [if_neg e8, if_neg e8]
        by_cases e9 : w = 9
        · rw [if_pos e9, if_pos e9]
        rw [if_neg e9, if_neg e9]
        by_cases e10 : w = 10
        · rw [if_pos e10, if_pos e10]
        rw [if_neg e10, if_neg e10]
        by_cases e11 : w = 11
        · rw [if_pos e11, if_pos e11]
        rw [if_neg e11, if_neg e11, c_told (by omega) (by omega) p.1 (by omega) q.1 (by omega), mm_cI_ok]
      · rw [if_neg q, if_neg (fun z => q z.2)]
    · rw [if_neg p, if_neg (fun z => p z.1)]
  · have g := i_stageM (E := E) (d := d) (B := B) (iv_sL h o) hd hs hw c
    exact g.trans (if_pos p)
  · rw [i_stageM h hd hs hw, if_neg p]; rfl
end
