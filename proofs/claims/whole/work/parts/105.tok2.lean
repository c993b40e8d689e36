/-! TOKENS, the model's; signs, numbers -/
section TOK2
variable {E : mm_E} {d B : Nat} {S : mm_S} {c : mm_N}
theorem m_byteAt {p : Int} (hd : 1 ≤ d) (hn : S.I 101 27 ≤ 400) (h0 : 0 ≤ p) (h1 : p ≤ 400) (h2 : 0 ≤ S.I 101 27) : mm_ev E d 229 [.ref (mm_ad B 101), .int (mm_i p)] (mm_hp B S c) = mm_oI (if S.I 101 27 ≤ p then -1 else S.A 122 p) (mm_hp B S c) := by
  refine mm_v229 (by omega) (fun F e hF he => ?_)
  rw [mm_e229_0]
  simp (disch := omega) only [mm_ptM, mm_br_le]
  by_cases f : S.I 101 27 ≤ p
  · rw [if_pos f, if_pos f]
  · rw [if_neg f, if_neg f]
theorem m_isSmall {x : Int} (hd : 1 ≤ d) (h1 : -1 ≤ x) (h2 : x ≤ 255) : mm_ev E d 230 [.int (mm_i x)] (mm_hp B S c) = mm_oI (mm_b1 (decide (97 ≤ x ∧ x ≤ 122))) (mm_hp B S c) := by
  refine mm_v230 (by omega) (fun F e hF he => ?_)
  simp (disch := omega) only [mm_e230_0, mm_br_lt, mm_bz0, mm_bz1]
  by_cases f : x < 97
  · rw [if_pos f, decide_eq_false (by omega)]; rfl
  · rw [if_neg f]
    by_cases g : 122 < x
    · rw [if_pos g, decide_eq_false (by omega)]; rfl
    · rw [if_neg g, decide_eq_true (by omega)]; rfl
theorem m_isFigure {x : Int} (hd : 1 ≤ d) (h1 : -1 ≤ x) (h2 : x ≤ 255) : mm_ev E d 231 [.int (mm_i x)] (mm_hp B S c) = mm_oI (mm_b1 (decide (48 ≤ x ∧ x ≤ 57))) (mm_hp B S c) := by
  refine mm_v231 (by omega) (fun F e hF he => ?_)
  simp (disch := omega) only [mm_e231_0, mm_br_lt, mm_bz0, mm_bz1]
  by_cases f : x < 48
  · rw [if_pos f, decide_eq_false (by omega)]; rfl
  · rw [if_neg f]
    by_cases g : 57 < x
    · rw [if_pos g, decide_eq_false (by omega)]; rfl
    · rw [if_neg g, decide_eq_true (by omega)]; rfl
theorem pp_kd1 (x : Int) : (97 ≤ x ∧ x ≤ 122) ↔ pp_kd x = 1 := by
  unfold pp_kd
  by_cases e : 97 ≤ x ∧ x ≤ 122
  · rw [if_pos e]; exact ⟨fun _ => rfl, fun _ => e⟩
  · rw [if_neg e]
    refine ⟨fun z => absurd z e, fun z => ?_⟩
    by_cases f : 48 ≤ x ∧ x ≤ 57
    · rw [if_pos f] at z; omega
    · rw [if_neg f] at z; omega
theorem pp_kd2 (x : Int) : (48 ≤ x ∧ x ≤ 57) ↔ pp_kd x = 2 := by
  unfold pp_kd
  by_cases e : 97 ≤ x ∧ x ≤ 122
  · rw [if_pos e]; omega
  · rw [if_neg e]
    by_cases f : 48 ≤ x ∧ x ≤ 57
    · rw [if_pos f]; exact ⟨fun _ => rfl, fun _ => f⟩
    · rw [if_neg f]; omega
theorem l_step1 (hd : 1 ≤ d) (hB : pp_by (S.A 122) (S.I 101 27)) (hn : S.I 101 27 ≤ 400) : ∀ (j n : Nat) (p : Int), 0 ≤ p → p + j = S.I 101 27 → j < n → ∃ m, n ≤ m + j + 1 ∧ mm_r232_0 E (mm_ev E d) n (mm_ad B 101) (mm_hp B (S.sI 101 28 p) c) = mm_r232_56 E (mm_ev E d) m (mm_ad B 101) (mm_i (if S.I 101 27 ≤ pp_sk (S.A 122) (S.I 101 27) j p then -1 else S.A 122 (pp_sk (S.A 122) (S.I 101 27) j p))) (mm_hp B ((S.sI 101 28 (pp_sk (S.A 122) (S.I 101 27) j p)).sI 101 30 (pp_sk (S.A 122) (S.I 101 27) j p)) c) := by
  have by27 : ∀ (T : mm_S) (p : Int), T.I 101 27 = S.I 101 27 → T.A 122 = S.A 122 → 0 ≤ p → p ≤ S.I 101 27 → mm_ev E d 229 [.ref (mm_ad B 101), .int (mm_i p)] (mm_hp B T c) = mm_oI (if S.I 101 27 ≤ p then -1 else S.A 122 p) (mm_hp B T c) := fun T p e1 e2 p0 p1 => by
    rw [m_byteAt hd (by rw [e1]; exact hn) p0 (by omega) (by rw [e1]; omega), e1, e2]
  intro j
  induction j with
  | zero =>
    intro n p p0 hp hj
    obtain ⟨n, rfl⟩ : ∃ q, n = q + 1 := ⟨n - 1, by omega⟩
    refine ⟨n, by omega, ?_⟩
    have le : S.I 101 27 ≤ p := by omega
    rw [mm_e232_0]
    simp (disch := omega) only [mm_ptM, mm_gs]
    rw [by27 _ p (mm_gI_ne (by omega)) rfl p0 (by omega), mm_cI_ok, if_pos le, mm_br_eq (by omega) (by omega) (by omega) (by omega), if_neg (by omega)]
    simp (disch := omega) only [mm_ptM, mm_gs]
    rw [by27 _ p (mm_gI_ne (by omega)) rfl p0 (by omega), mm_cI_ok, if_pos le, mm_br_eq (by omega) (by omega) (by omega) (by omega), if_neg (by omega)]
    simp (disch := omega) only [mm_ptM, mm_gs, pp_ne]
    rw [by27 ((S.sI 101 28 p).sI 101 30 p) p (by simp (disch := omega) only [mm_gs, pp_ne]) rfl p0 (by omega), mm_cI_ok]
    rfl
  | succ j ih =>
    intro n p p0 hp hj
    obtain ⟨n, rfl⟩ : ∃ q, n = q + 1 := ⟨n - 1, by omega⟩
    have b := hB p p0 (by omega)
    have le : ¬ S.I 101 27 ≤ p := by omega
    have esk : pp_sk (S.A 122) (S.I 101 27) (j + 1) p = if p < S.I 101 27 ∧ (S.A 122 p = 32 ∨ S.A 122 p = 10) then pp_sk (S.A 122) (S.I 101 27) j (p + 1) else p := rfl
    have esk1 : (S.A 122 p = 32 ∨ S.A 122 p = 10) → pp_sk (S.A 122) (S.I 101 27) (j + 1) p = pp_sk (S.A 122) (S.I 101 27) j (p + 1) := fun e => by rw [esk, if_pos ⟨by omega, e⟩]
    have esk2 : ¬ (S.A 122 p = 32 ∨ S.A 122 p = 10) → pp_sk (S.A 122) (S.I 101 27) (j + 1) p = p := fun e => by rw [esk, if_neg (fun z => e z.2)]
    rw [mm_e232_0]
    simp (disch := omega) only [mm_ptM, mm_gs]
    rw [by27 _ p (mm_gI_ne (by omega)) rfl p0 (by omega), mm_cI_ok, if_neg le, mm_br_eq (by omega) (by omega) (by omega) (by omega)]
    by_cases e : S.A 122 p = 32 ∨ S.A 122 p = 10
    · obtain ⟨m, q1, q2⟩ := ih n (p + 1) (by omega) (by omega) (by omega)
      refine ⟨m, by omega, ?_⟩
      rw [esk1 e, ← q2]
      by_cases f : S.A 122 p = 32
      · rw [if_pos f]
        simp (disch := omega) only [mm_ptM, mm_gs, mm_hm]
      · have f2 := e.resolve_left f
        rw [if_neg f]
        simp (disch := omega) only [mm_ptM, mm_gs]
        rw [by27 _ p (mm_gI_ne (by omega)) rfl p0 (by omega), mm_cI_ok, if_neg le, mm_br_eq (by omega) (by omega) (by omega) (by omega), if_pos f2]
        simp (disch := omega) only [mm_ptM, mm_gs, mm_hm]
    · refine ⟨n, by omega, ?_⟩
      rw [esk2 e, if_neg (fun z => e (Or.inl z)), if_neg le]
      simp (disch := omega) only [mm_ptM, mm_gs]
      rw [by27 _ p (mm_gI_ne (by omega)) rfl p0 (by omega), mm_cI_ok, if_neg le, mm_br_eq (by omega) (by omega) (by omega) (by omega), if_neg (fun z => e (Or.inr z))]
      simp (disch := omega) only [mm_ptM, mm_gs, pp_ne]
      rw [by27 ((S.sI 101 28 p).sI 101 30 p) p (by simp (disch := omega) only [mm_gs, pp_ne]) rfl p0 (by omega), mm_cI_ok, if_neg le]
theorem l_step2 {x1 : Int32} (hd : 1 ≤ d) (hB : pp_by (S.A 122) (S.I 101 27)) (hn : S.I 101 27 ≤ 400) : ∀ (j n : Nat) (p : Int), 0 ≤ p → p + j = S.I 101 27 → j < n → mm_r232_76 E (mm_ev E d) n (mm_ad B 101) x1 (mm_hp B (S.sI 101 28 p) c) = mm_oV (mm_hp B (((S.sI 101 28 (pp_ex (S.A 122) (S.I 101 27) 1 j p)).sI 101 29 1).sI 101 31 (pp_ex (S.A 122) (S.I 101 27) 1 j p)) c) := by
  intro j
  induction j with
  | zero =>
    intro n p p0 hp hj
    obtain ⟨n, rfl⟩ : ∃ q, n = q + 1 := ⟨n - 1, by omega⟩
    have i27 : (S.sI 101 28 p).I 101 27 = S.I 101 27 := mm_gI_ne (by omega)
    rw [mm_e232_76]
    simp (disch := omega) only [mm_ptM, mm_gs]
    rw [m_byteAt hd (by rw [i27]; exact hn) p0 (by omega) (by rw [i27]; omega), mm_cI_ok, i27, if_pos (by omega), m_isSmall hd (by omega) (by omega), mm_cI_ok, mm_br_b1, decide_eq_false (by omega), if_neg (by decide)]
    simp (disch := omega) only [mm_ptM, mm_gs, pp_ne]
    rfl
  | succ j ih =>
    intro n p p0 hp hj
    obtain ⟨n, rfl⟩ : ∃ q, n = q + 1 := ⟨n - 1, by omega⟩
    have i27 : (S.sI 101 28 p).I 101 27 = S.I 101 27 := mm_gI_ne (by omega)
    have b := hB p p0 (by omega)
    have e0 : (S.sI 101 28 p).A 122 = S.A 122 := rfl
    have eex : pp_ex (S.A 122) (S.I 101 27) 1 (j + 1) p = if p < S.I 101 27 ∧ pp_kd (S.A 122 p) = 1 then pp_ex (S.A 122) (S.I 101 27) 1 j (p + 1) else p := rfl
    rw [mm_e232_76]
    simp (disch := omega) only [mm_ptM, mm_gs]
    rw [m_byteAt hd (by rw [i27]; exact hn) p0 (by omega) (by rw [i27]; omega), mm_cI_ok, i27, if_neg (by omega), e0, m_isSmall hd (by omega) (by omega), mm_cI_ok, mm_br_b1, eex]
    by_cases e : 97 ≤ S.A 122 p ∧ S.A 122 p ≤ 122
    · rw [if_pos (decide_eq_true e), if_pos ⟨by omega, (pp_kd1 _).mp e⟩]
      simp (disch := omega) only [mm_ptM, mm_gs, mm_hm]
      exact ih n (p + 1) (by omega) (by omega) (by omega)
    · rw [if_neg (fun z => e (of_decide_eq_true z)), if_neg (fun z => e ((pp_kd1 _).mpr z.2))]
      simp (disch := omega) only [mm_ptM, mm_gs, pp_ne]
theorem l_step3 {x1 : Int32} (hd : 1 ≤ d) (hB : pp_by (S.A 122) (S.I 101 27)) (hn : S.I 101 27 ≤ 400) : ∀ (j n : Nat) (p : Int), 0 ≤ p → p + j = S.I 101 27 → j < n → mm_r232_118 E (mm_ev E d) n (mm_ad B 101) x1 (mm_hp B (S.sI 101 28 p) c) = mm_oV (mm_hp B (((S.sI 101 28 (pp_ex (S.A 122) (S.I 101 27) 2 j p)).sI 101 29 2).sI 101 31 (pp_ex (S.A 122) (S.I 101 27) 2 j p)) c) := by
  intro j
  induction j with
  | zero =>
    intro n p p0 hp hj
    obtain ⟨n, rfl⟩ : ∃ q, n = q + 1 := ⟨n - 1, by omega⟩
    have i27 : (S.sI 101 28 p).I 101 27 = S.I 101 27 := mm_gI_ne (by omega)
    rw [mm_e232_118]
    simp (disch := omega) only [mm_ptM, mm_gs]
    rw [m_byteAt hd (by rw [i27]; exact hn) p0 (by omega) (by rw [i27]; omega), mm_cI_ok, i27, if_pos (by omega), m_isFigure hd (by omega) (by omega), mm_cI_ok, mm_br_b1, decide_eq_false (by omega), if_neg (by decide)]
    simp (disch := omega) only [mm_ptM, mm_gs, pp_ne]
    rfl
  | succ j ih =>
    intro n p p0 hp hj
    obtain ⟨n, rfl⟩ : ∃ q, n = q + 1 := ⟨n - 1, by omega⟩
    have i27 : (S.sI 101 28 p).I 101 27 = S.I 101 27 := mm_gI_ne (by omega)
    have b := hB p p0 (by omega)
    have e0 : (S.sI 101 28 p).A 122 = S.A 122 := rfl
    have eex : pp_ex (S.A 122) (S.I 101 27) 2 (j + 1) p = if p < S.I 101 27 ∧ pp_kd (S.A 122 p) = 2 then pp_ex (S.A 122) (S.I 101 27) 2 j (p + 1) else p := rfl
    rw [mm_e232_118]
    simp (disch := omega) only [mm_ptM, mm_gs]
    rw [m_byteAt hd (by rw [i27]; exact hn) p0 (by omega) (by rw [i27]; omega), mm_cI_ok, i27, if_neg (by omega), e0, m_isFigure hd (by omega) (by omega), mm_cI_ok, mm_br_b1, eex]
    by_cases e : 48 ≤ S.A 122 p ∧ S.A 122 p ≤ 57
    · rw [if_pos (decide_eq_true e), if_pos ⟨by omega, (pp_kd2 _).mp e⟩]
      simp (disch := omega) only [mm_ptM, mm_gs, mm_hm]
      exact ih n (p + 1) (by omega) (by omega) (by omega)
    · rw [if_neg (fun z => e (of_decide_eq_true z)), if_neg (fun z => e ((pp_kd2 _).mpr z.2))]
      simp (disch := omega) only [mm_ptM, mm_gs, pp_ne]
theorem m_step (hd : 2 ≤ d) (hB : pp_by (S.A 122) (S.I 101 27)) (hn : S.I 101 27 ≤ 400) (h0 : 0 ≤ S.I 101 28) (h1 : S.I 101 28 ≤ S.I 101 27) : mm_ev E d 232 [.ref (mm_ad B 101)] (mm_hp B S c) = mm_oV (mm_hp B ((((S.sI 101 28 (pp_te (S.A 122) (S.I 101 27) (S.I 101 28))).sI 101 29 (pp_tk (S.A 122) (S.I 101 27) (S.I 101 28))).sI 101 30 (pp_tb (S.A 122) (S.I 101 27) (S.I 101 28))).sI 101 31 (pp_te (S.A 122) (S.I 101 27) (S.I 101 28))) c) := by
  refine mm_v232 (by omega) (fun F e hF he => ?_)
  have tb := pp_tb_r (t := S.A 122) h0 h1
  have id28 : S.sI 101 28 (S.I 101 28) = S := by
    apply pp_ext
    · intro x k
      by_cases z : x = 101 ∧ k = 28
      · rw [z.1, z.2, mm_gs.1]
      · exact mm_gI_ne z
    · intros; rfl
    · intros; rfl
    · intros; rfl
  obtain ⟨m, q1, q2⟩ := l_step1 (E := E) (d := e) (B := B) (S := S) (c := c) (by omega) hB hn (S.I 101 27 - S.I 101 28).toNat (F + 100) (S.I 101 28) h0 (by omega) (by omega)
  rw [id28, show pp_sk (S.A 122) (S.I 101 27) (S.I 101 27 - S.I 101 28).toNat (S.I 101 28) = pp_tb (S.A 122) (S.I 101 27) (S.I 101 28) from rfl] at q2
  obtain ⟨m, rfl⟩ : ∃ q, m = q + 1 := ⟨m - 1, by omega⟩
  rw [q2, mm_e232_56]
  by_cases l : S.I 101 27 ≤ pp_tb (S.A 122) (S.I 101 27) (S.I 101 28)
  · have k0 : pp_tk (S.A 122) (S.I 101 27) (S.I 101 28) = 0 := by unfold pp_tk; rw [if_neg (by omega)]
    have te : pp_te (S.A 122) (S.I 101 27) (S.I 101 28) = pp_tb (S.A 122) (S.I 101 27) (S.I 101 28) := by
      unfold pp_te; rw [k0, if_neg (by omega)]; omega
    rw [if_pos l, mm_br_eq (by omega) (by omega) (by omega) (by omega), if_pos rfl, k0, te]
    simp (disch := omega) only [mm_ptM, mm_gs, pp_ne, pp_cm]
  · have b := hB (pp_tb (S.A 122) (S.I 101 27) (S.I 101 28)) (by omega) (by omega)
    have k0 : pp_tk (S.A 122) (S.I 101 27) (S.I 101 28) = pp_kd (S.A 122 (pp_tb (S.A 122) (S.I 101 27) (S.I 101 28))) := by unfold pp_tk; rw [if_pos (by omega)]
    rw [if_neg l, mm_br_eq (by omega) (by omega) (by omega) (by omega), if_neg (by omega), m_isSmall (by omega) (by omega) (by omega), mm_cI_ok, mm_br_b1]
    have com : ∀ x : Int, (S.sI 101 28 x).sI 101 30 (pp_tb (S.A 122) (S.I 101 27) (S.I 101 28)) = (S.sI 101 30 (pp_tb (S.A 122) (S.I 101 27) (S.I 101 28))).sI 101 28 x := fun x => (pp_cmI (by omega)).symm
    have ex1 : ∀ k : Int, pp_kd (S.A 122 (pp_tb (S.A 122) (S.I 101 27) (S.I 101 28))) = k → pp_ex (S.A 122) (S.I 101 27) k (S.I 101 27 - pp_tb (S.A 122) (S.I 101 27) (S.I 101 28)).toNat (pp_tb (S.A 122) (S.I 101 27) (S.I 101 28)) = pp_ex (S.A 122) (S.I 101 27) k (S.I 101 27 - (pp_tb (S.A 122) (S.I 101 27) (S.I 101 28) + 1)).toNat (pp_tb (S.A 122) (S.I 101 27) (S.I 101 28) + 1) := fun k hk => by
      rw [show (S.I 101 27 - pp_tb (S.A 122) (S.I 101 27) (S.I 101 28)).toNat = (S.I 101 27 - (pp_tb (S.A 122) (S.I 101 27) (S.I 101 28) + 1)).toNat + 1 by omega]
      show (if pp_tb (S.A 122) (S.I 101 27) (S.I 101 28) < S.I 101 27 ∧ pp_kd (S.A 122 (pp_tb (S.A 122) (S.I 101 27) (S.I 101 28))) = k then _ else _) = _
      rw [if_pos ⟨by omega, hk⟩]
    by_cases w1 : 97 ≤ S.A 122 (pp_tb (S.A 122) (S.I 101 27) (S.I 101 28)) ∧ S.A 122 (pp_tb (S.A 122) (S.I 101 27) (S.I 101 28)) ≤ 122
    · have k1 := (pp_kd1 _).mp w1
      have te : pp_te (S.A 122) (S.I 101 27) (S.I 101 28) = pp_ex (S.A 122) (S.I 101 27) 1 (S.I 101 27 - (pp_tb (S.A 122) (S.I 101 27) (S.I 101 28) + 1)).toNat (pp_tb (S.A 122) (S.I 101 27) (S.I 101 28) + 1) := by unfold pp_te; rw [k0, k1, if_pos (Or.inl rfl)]
      have u := l_step2 (E := E) (d := e) (B := B) (S := S.sI 101 30 (pp_tb (S.A 122) (S.I 101 27) (S.I 101 28))) (c := c) (x1 := mm_i (S.A 122 (pp_tb (S.A 122) (S.I 101 27) (S.I 101 28)))) (by omega) (by simp (disch := omega) only [mm_gs, pp_ne]; exact hB) (by simp (disch := omega) only [mm_gs, pp_ne]; exact hn) (S.I 101 27 - pp_tb (S.A 122) (S.I 101 27) (S.I 101 28)).toNat m (pp_tb (S.A 122) (S.I 101 27) (S.I 101 28)) (by omega) (by simp (disch := omega) only [mm_gs, pp_ne]; omega) (by omega)
      simp (disch := omega) only [mm_gs, pp_ne] at u
      rw [ex1 1 k1, ← te] at u
      rw [if_pos (decide_eq_true w1), com, u, k0, k1]
      simp (disch := omega) only [pp_cm]
    · rw [if_neg (fun z => w1 (of_decide_eq_true z)), m_isFigure (by omega) (by omega) (by omega), mm_cI_ok, mm_br_b1]
      have n1 : pp_kd (S.A 122 (pp_tb (S.A 122) (S.I 101 27) (S.I 101 28))) ≠ 1 := fun z => w1 ((pp_kd1 _).mpr z)
      by_cases w2 : 48 ≤ S.A 122 (pp_tb (S.A 122) (S.I 101 27) (S.I 101 28)) ∧ S.A 122 (pp_tb (S.A 122) (S.I 101 27) (S.I 101 28)) ≤ 57
      · have k2 := (pp_kd2 _).mp w2
        have te : pp_te (S.A 122) (S.I 101 27) (S.I 101 28) = pp_ex (S.A 122) (S.I 101 27) 2 (S.I 101 27 - (pp_tb (S.A 122) (S.I 101 27) (S.I 101 28) + 1)).toNat (pp_tb (S.A 122) (S.I 101 27) (S.I 101 28) + 1) := by unfold pp_te; rw [k0, k2, if_pos (Or.inr rfl)]
        have u := l_step3 (E := E) (d := e) (B := B) (S := S.sI 101 30 (pp_tb (S.A 122) (S.I 101 27) (S.I 101 28))) (c := c) (x1 := mm_i (S.A 122 (pp_tb (S.A 122) (S.I 101 27) (S.I 101 28)))) (by omega) (by simp (disch := omega) only [mm_gs, pp_ne]; exact hB) (by simp (disch := omega) only [mm_gs, pp_ne]; exact hn) (S.I 101 27 - pp_tb (S.A 122) (S.I 101 27) (S.I 101 28)).toNat m (pp_tb (S.A 122) (S.I 101 27) (S.I 101 28)) (by omega) (by simp (disch := omega) only [mm_gs, pp_ne]; omega) (by omega)
        simp (disch := omega) only [mm_gs, pp_ne] at u
        rw [ex1 2 k2, ← te] at u
        rw [if_pos (decide_eq_true w2), com, u, k0, k2]
        simp (disch := omega) only [pp_cm]
      · have n2 : pp_kd (S.A 122 (pp_tb (S.A 122) (S.I 101 27) (S.I 101 28))) ≠ 2 := fun z => w2 ((pp_kd2 _).mpr z)
        have kr := pp_kd_r (S.A 122 (pp_tb (S.A 122) (S.I 101 27) (S.I 101 28)))
        have k3 : pp_kd (S.A 122 (pp_tb (S.A 122) (S.I 101 27) (S.I 101 28))) = 3 := by omega
        have te : pp_te (S.A 122) (S.I 101 27) (S.I 101 28) = pp_tb (S.A 122) (S.I 101 27) (S.I 101 28) + 1 := by unfold pp_te; rw [k0, k3, if_neg (by omega)]; omega
        rw [if_neg (fun z => w2 (of_decide_eq_true z)), k0, k3, te]
        simp (disch := omega) only [mm_ptM, mm_gs, pp_ne, mm_hm, pp_cm]
end TOK2
