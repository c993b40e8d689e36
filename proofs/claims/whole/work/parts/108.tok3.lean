/-! TOKENS, the rest: the next token; a word skipped; signs that must stand -/
/-- the class's token from p on; the model's -/
def pp_tT (S : mm_S) (p : Int) : mm_S := ((S.sI 1 3 (pp_tb (S.A 2) (S.I 1 2) p)).sI 1 4 (pp_te (S.A 2) (S.I 1 2) p)).sI 1 5 (pp_tk (S.A 2) (S.I 1 2) p)
def pp_tM (S : mm_S) (p : Int) : mm_S := (((S.sI 101 28 (pp_te (S.A 122) (S.I 101 27) p)).sI 101 29 (pp_tk (S.A 122) (S.I 101 27) p)).sI 101 30 (pp_tb (S.A 122) (S.I 101 27) p)).sI 101 31 (pp_te (S.A 122) (S.I 101 27) p)
/-- the class's tokens between two steps -/
def pp_KT (S : mm_S) : Prop := pp_by (S.A 2) (S.I 1 2) ∧ S.I 1 2 ≤ 400 ∧ 0 ≤ S.I 1 3 ∧ S.I 1 3 ≤ S.I 1 4 ∧ S.I 1 4 ≤ S.I 1 2 ∧ 0 ≤ S.I 1 5 ∧ S.I 1 5 ≤ 3 ∧ (S.I 1 5 = 3 → S.I 1 3 < S.I 1 2)
/-- the model's -/
def pp_KM (S : mm_S) : Prop := pp_by (S.A 122) (S.I 101 27) ∧ S.I 101 27 ≤ 400 ∧ 0 ≤ S.I 101 30 ∧ S.I 101 30 ≤ S.I 101 31 ∧ S.I 101 31 ≤ S.I 101 27 ∧ 0 ≤ S.I 101 29 ∧ S.I 101 29 ≤ 3 ∧ (S.I 101 29 = 3 → S.I 101 30 < S.I 101 27) ∧ S.I 101 28 = S.I 101 31 ∧ 0 ≤ S.I 101 32 ∧ S.I 101 32 ≤ 5
theorem pp_tk3 {t : Int → Int} {n p : Int} (h : pp_tk t n p ≠ 0) : pp_tb t n p < n := by
  by_cases l : pp_tb t n p < n
  · exact l
  · exact absurd (by unfold pp_tk; rw [if_neg l]) h
theorem pp_KT_t {S : mm_S} {p : Int} (hB : pp_by (S.A 2) (S.I 1 2)) (hn : S.I 1 2 ≤ 400) (h0 : 0 ≤ p) (h1 : p ≤ S.I 1 2) : pp_KT (pp_tT S p) := by
  have a := pp_tb_r (t := S.A 2) h0 h1
  have b := pp_te_r (t := S.A 2) h0 h1
  have k := pp_tk_r (S.A 2) (S.I 1 2) p
  unfold pp_KT pp_tT
  simp (disch := omega) only [mm_gs, pp_ne]
  exact ⟨hB, hn, by omega, by omega, by omega, by omega, by omega, fun z => pp_tk3 (by omega)⟩
theorem pp_KM_t {S : mm_S} {p : Int} (hB : pp_by (S.A 122) (S.I 101 27)) (hn : S.I 101 27 ≤ 400) (h0 : 0 ≤ p) (h1 : p ≤ S.I 101 27) (hb : 0 ≤ S.I 101 32 ∧ S.I 101 32 ≤ 5) : pp_KM (pp_tM S p) := by
  have a := pp_tb_r (t := S.A 122) h0 h1
  have b := pp_te_r (t := S.A 122) h0 h1
  have k := pp_tk_r (S.A 122) (S.I 101 27) p
  unfold pp_KM pp_tM
  simp (disch := omega) only [mm_gs, pp_ne]
  exact ⟨hB, hn, by omega, by omega, by omega, by omega, by omega, fun z => pp_tk3 (by omega), trivial, hb.1, hb.2⟩
section TOK3
variable {E : mm_E} {d B : Nat} {S : mm_S} {c : mm_N}
theorem c_adv (hd : 2 ≤ d) (hK : pp_KT S) : mm_ev E d 95 [.ref (mm_ad B 1)] (mm_hp B S c) = mm_oV (mm_hp B (pp_tT S (S.I 1 4)) c) := by
  obtain ⟨hB, hn, h0, h1, h2, _⟩ := hK
  exact c_advance hd hB hn (by omega) h2
theorem m_stp (hd : 2 ≤ d) (hK : pp_KM S) : mm_ev E d 232 [.ref (mm_ad B 101)] (mm_hp B S c) = mm_oV (mm_hp B (pp_tM S (S.I 101 28)) c) := by
  obtain ⟨hB, hn, h0, h1, h2, _, _, _, h3, _⟩ := hK
  exact m_step hd hB hn (by omega) (by omega)
theorem c_open {x : Int} (hd : 3 ≤ d) (h0 : 0 ≤ x) (h1 : x ≤ 2147483647) (hB : pp_by (S.A 2) (min x 400)) : mm_ev E d 94 [.ref (mm_ad B 1), .int (mm_i x)] (mm_hp B S c) = mm_oV (mm_hp B (pp_tT ((S.sI 1 2 (min x 400)).sI 1 4 0) 0) c) := by
  refine mm_v94 (by omega) (fun F e hF he => ?_)
  rw [mm_e94_0]
  simp (disch := omega) only [mm_ptT, mm_gs, pp_ne, mm_i_mn]
  rw [c_advance (by omega) (by simp (disch := omega) only [mm_gs, pp_ne]; exact hB) (by simp (disch := omega) only [mm_gs, pp_ne]; omega) (by simp (disch := omega) only [mm_gs, pp_ne]; omega) (by simp (disch := omega) only [mm_gs, pp_ne]; omega), mm_cV_ok]
  unfold pp_tT
  simp (disch := omega) only [mm_gs, pp_ne]
theorem c_skipWord {i : Nat} (hE : pp_OE E B) (hd : 3 ≤ d) (hi : i < 56) (hK : pp_KT S) {w : List Int} (hw : pp_tx i = w ++ [32]) (h32 : ∀ x ∈ w, x ≠ 32) : mm_ev E d 97 [.ref (mm_ad B 1), .ref (E.2.2.1 i)] (mm_hp B S c) = if (decide (S.I 1 5 = 1) && pp_wd (S.A 2) (S.I 1 3) (S.I 1 4) w) = true then mm_oI 1 (mm_hp B (pp_tT S (S.I 1 4)) c) else mm_oI 0 (mm_hp B S c) := by
  refine mm_v97 (by omega) (fun F e hF he => ?_)
  have hK' := hK
  obtain ⟨hB, hn, h0, h1, h2, k0, k1, _⟩ := hK'
  rw [mm_e97_0, c_among hE (by omega) hi hB hn h0 h1 h2 ⟨k0, k1⟩, mm_cI_ok, hw, pp_am_w w 0 (S.I 1 3) true h32, Bool.true_and]
  have no : pp_am (S.A 2) (S.I 1 3) (S.I 1 4) [] (0 + 1) (S.I 1 3) true = -1 := rfl
  rw [no]
  by_cases k : S.I 1 5 = 1
  · rw [if_pos k, decide_eq_true k, Bool.true_and]
    by_cases q : pp_wd (S.A 2) (S.I 1 3) (S.I 1 4) w = true
    · rw [if_pos q, if_pos q, mm_br_t rfl, mm_br_eq (by omega) (by omega) (by omega) (by omega), if_neg (by omega), c_adv (by omega) hK, mm_cV_ok, mm_bz1]
    · rw [if_neg q, if_neg q, mm_br_eq (by omega) (by omega) (by omega) (by omega), if_neg (by omega), mm_br_t rfl, mm_bz0]
  · rw [if_neg k, decide_eq_false k, Bool.false_and, mm_br_eq (by omega) (by omega) (by omega) (by omega), if_neg (by omega), mm_br_t rfl, mm_bz0, if_neg (by decide)]
theorem m_pass (hd : 3 ≤ d) (hK : pp_KM S) : mm_ev E d 236 [.ref (mm_ad B 101)] (mm_hp B S c) = mm_oV (mm_hp B (if S.I 101 32 = 0 then pp_tM S (S.I 101 28) else S) c) := by
  refine mm_v236 (by omega) (fun F e hF he => ?_)
  have hK' := hK
  obtain ⟨_, _, _, _, _, _, _, _, _, b0, b1⟩ := hK'
  rw [mm_e236_0]
  simp (disch := omega) only [mm_ptM, mm_br_eq]
  by_cases b : S.I 101 32 = 0
  · rw [if_pos b, if_pos b, m_stp (by omega) hK, mm_cV_ok]
  · rw [if_neg b, if_neg b]
theorem pp_KM_w {k : Int} (hK : pp_KM S) (h0 : 0 ≤ k) (h1 : k ≤ 5) : pp_KM ((S.sI 101 32 k).sI 101 33 (S.I 101 30)) := by
  obtain ⟨hB, hn, a1, a2, a3, a4, a5, a6, a7, _⟩ := hK
  unfold pp_KM
  simp (disch := omega) only [mm_gs, pp_ne]
  exact ⟨hB, hn, a1, a2, a3, a4, a5, a6, a7, h0, h1⟩
theorem m_must {x : Int} (hd : 4 ≤ d) (hK : pp_KM S) (hx : 0 ≤ x ∧ x ≤ 255) : mm_ev E d 237 [.ref (mm_ad B 101), .int (mm_i x)] (mm_hp B S c) = mm_oV (mm_hp B (if S.I 101 32 = 0 then (if (decide (S.I 101 29 = 3) && decide (S.A 122 (S.I 101 30) = x)) = true then pp_tM S (S.I 101 28) else (S.sI 101 32 1).sI 101 33 (S.I 101 30)) else S) c) := by
  refine mm_v237 (by omega) (fun F e hF he => ?_)
  have hK' := hK
  obtain ⟨hB, hn, a1, a2, a3, a4, a5, a6, a7, b0, b1⟩ := hK'
  rw [mm_e237_0, m_isSign (by omega) hB hn a1 a6 ⟨b0, b1⟩ ⟨a4, a5⟩ hx, mm_cI_ok, mm_br_b1]
  by_cases b : S.I 101 32 = 0
  · rw [decide_eq_true b, Bool.true_and, if_pos b]
    by_cases q : (decide (S.I 101 29 = 3) && decide (S.A 122 (S.I 101 30) = x)) = true
    · rw [if_pos q, if_pos q, m_pass (by omega) hK, mm_cV_ok, if_pos b]
    · rw [if_neg q, if_neg q, m_wrong (by omega) ⟨b0, b1⟩, mm_cV_ok, if_pos b, m_pass (by omega) (pp_KM_w hK (by omega) (by omega)), mm_cV_ok]
      simp (disch := omega) only [mm_gs, pp_ne]
      rw [if_neg (by omega)]
  · rw [decide_eq_false b, Bool.false_and, if_neg (by decide), if_neg b, m_wrong (by omega) ⟨b0, b1⟩, mm_cV_ok, if_neg b, m_pass (by omega) hK, mm_cV_ok, if_neg b]
theorem m_opens {x : Int} (hd : 3 ≤ d) (h0 : 0 ≤ x) (h1 : x ≤ 400) (hB : pp_by (S.A 122) x) : mm_ev E d 238 [.ref (mm_ad B 101), .int (mm_i x)] (mm_hp B S c) = mm_oV (mm_hp B (pp_tM ((((S.sI 101 27 x).sI 101 28 0).sI 101 32 0).sI 101 35 0) 0) c) := by
  refine mm_v238 (by omega) (fun F e hF he => ?_)
  rw [mm_e238_0]
  simp (disch := omega) only [mm_ptM, mm_gs, pp_ne]
  rw [m_step (by omega) (by simp (disch := omega) only [mm_gs, pp_ne]; exact hB) (by simp (disch := omega) only [mm_gs, pp_ne]; omega) (by simp (disch := omega) only [mm_gs, pp_ne]; omega) (by simp (disch := omega) only [mm_gs, pp_ne]; omega), mm_cV_ok]
  unfold pp_tM
  simp (disch := omega) only [mm_gs, pp_ne]
theorem m_ends (hd : 1 ≤ d) (hb : 0 ≤ S.I 101 32 ∧ S.I 101 32 ≤ 5) : mm_ev E d 240 [.ref (mm_ad B 101)] (mm_hp B S c) = mm_oI (S.I 101 32) (mm_hp B ((S.sI 101 26 0).sI 101 34 (if S.I 101 32 = 0 then -1 else S.I 101 33)) c) := by
  refine mm_v240 (by omega) (fun F e hF he => ?_)
  rw [mm_e240_0]
  simp (disch := omega) only [mm_ptM, mm_gs, pp_ne, mm_br_eq]
  by_cases b : S.I 101 32 = 0
  · rw [if_pos b, if_pos b]
  · rw [if_neg b, if_neg b]
end TOK3
