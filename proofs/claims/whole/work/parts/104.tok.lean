/-! TOKENS -/
def pp_kd (x : Int) : Int := if 97 ≤ x ∧ x ≤ 122 then 1 else if 48 ≤ x ∧ x ≤ 57 then 2 else 3
theorem pp_kd_r (x : Int) : 1 ≤ pp_kd x ∧ pp_kd x ≤ 3 := by
  unfold pp_kd
  by_cases e : 97 ≤ x ∧ x ≤ 122
  · rw [if_pos e]; omega
  · rw [if_neg e]
    by_cases f : 48 ≤ x ∧ x ≤ 57
    · rw [if_pos f]; omega
    · rw [if_neg f]; omega
/-- behind blanks; behind signs of a kind -/
def pp_sk (t : Int → Int) (n : Int) : Nat → Int → Int
  | 0, p => p
  | j + 1, p => if p < n ∧ (t p = 32 ∨ t p = 10) then pp_sk t n j (p + 1) else p
def pp_ex (t : Int → Int) (n k : Int) : Nat → Int → Int
  | 0, p => p
  | j + 1, p => if p < n ∧ pp_kd (t p) = k then pp_ex t n k j (p + 1) else p
theorem pp_sk_r {t : Int → Int} {n : Int} : ∀ (j : Nat) (p : Int), p + j ≤ n → p ≤ pp_sk t n j p ∧ pp_sk t n j p ≤ n
  | 0, p, h => ⟨Int.le_refl p, by have : pp_sk t n 0 p = p := rfl; omega⟩
  | j + 1, p, h => by
    show p ≤ (if p < n ∧ (t p = 32 ∨ t p = 10) then pp_sk t n j (p + 1) else p) ∧ (if p < n ∧ (t p = 32 ∨ t p = 10) then pp_sk t n j (p + 1) else p) ≤ n
    by_cases e : p < n ∧ (t p = 32 ∨ t p = 10)
    · rw [if_pos e]
      have := pp_sk_r (t := t) (n := n) j (p + 1) (by omega)
      omega
    · rw [if_neg e]; omega
theorem pp_ex_r {t : Int → Int} {n k : Int} : ∀ (j : Nat) (p : Int), p + j ≤ n → p ≤ pp_ex t n k j p ∧ pp_ex t n k j p ≤ n
  | 0, p, h => ⟨Int.le_refl p, by have : pp_ex t n k 0 p = p := rfl; omega⟩
  | j + 1, p, h => by
    show p ≤ (if p < n ∧ pp_kd (t p) = k then pp_ex t n k j (p + 1) else p) ∧ (if p < n ∧ pp_kd (t p) = k then pp_ex t n k j (p + 1) else p) ≤ n
    by_cases e : p < n ∧ pp_kd (t p) = k
    · rw [if_pos e]
      have := pp_ex_r (t := t) (n := n) (k := k) j (p + 1) (by omega)
      omega
    · rw [if_neg e]; omega
/-- a token from p on: where it begins, its kind, where it ends -/
def pp_tb (t : Int → Int) (n p : Int) : Int := pp_sk t n (n - p).toNat p
def pp_tk (t : Int → Int) (n p : Int) : Int := if pp_tb t n p < n then pp_kd (t (pp_tb t n p)) else 0
def pp_te (t : Int → Int) (n p : Int) : Int := if pp_tk t n p = 1 ∨ pp_tk t n p = 2 then pp_ex t n (pp_tk t n p) (n - (pp_tb t n p + 1)).toNat (pp_tb t n p + 1) else min (pp_tb t n p + 1) n
theorem pp_tb_r {t : Int → Int} {n p : Int} (h0 : 0 ≤ p) (h : p ≤ n) : p ≤ pp_tb t n p ∧ pp_tb t n p ≤ n := pp_sk_r _ p (by omega)
theorem pp_tk_r (t : Int → Int) (n p : Int) : 0 ≤ pp_tk t n p ∧ pp_tk t n p ≤ 3 := by
  unfold pp_tk
  have := pp_kd_r (t (pp_tb t n p))
  by_cases e : pp_tb t n p < n
  · rw [if_pos e]; omega
  · rw [if_neg e]; omega
theorem pp_te_r {t : Int → Int} {n p : Int} (h0 : 0 ≤ p) (h : p ≤ n) : pp_tb t n p ≤ pp_te t n p ∧ pp_te t n p ≤ n ∧ (pp_tb t n p < n → pp_tb t n p < pp_te t n p) := by
  have b := pp_tb_r (t := t) h0 h
  unfold pp_te
  by_cases e : pp_tk t n p = 1 ∨ pp_tk t n p = 2
  · rw [if_pos e]
    have l : pp_tb t n p < n := by
      by_cases l : pp_tb t n p < n
      · exact l
      · unfold pp_tk at e
        rw [if_neg l] at e
        omega
    have := pp_ex_r (t := t) (n := n) (k := pp_tk t n p) (n - (pp_tb t n p + 1)).toNat (pp_tb t n p + 1) (by omega)
    omega
  · rw [if_neg e]; omega
section TOK
variable {E : mm_E} {d B : Nat} {S : mm_S} {c : mm_N}
theorem c_kindOf {x : Int} (hd : 1 ≤ d) (h1 : 0 ≤ x) (h2 : x ≤ 255) : mm_ev E d 100 [.int (mm_i x)] (mm_hp B S c) = mm_oI (pp_kd x) (mm_hp B S c) := by
  refine mm_v100 (by omega) (fun F e hF he => ?_)
  simp (disch := omega) only [mm_e100_0, mm_br_lt]
  unfold pp_kd
  by_cases f : 97 ≤ x ∧ x ≤ 122
  · rw [if_pos f, if_neg (by omega), if_neg (by omega)]
  · rw [if_neg f]
    by_cases g : 48 ≤ x ∧ x ≤ 57
    · rw [if_pos g, if_pos (by omega), if_neg (by omega), if_neg (by omega)]
    · rw [if_neg g]
      by_cases z : x < 97
      · rw [if_pos z]
        by_cases y : x < 48
        · rw [if_pos y]
        · rw [if_neg y, if_pos (by omega)]
      · rw [if_neg z, if_pos (by omega), if_neg (by omega), if_pos (by omega)]
/-- the tape's bytes -/
def pp_by (t : Int → Int) (n : Int) : Prop := ∀ i : Int, 0 ≤ i → i < n → 0 ≤ t i ∧ t i ≤ 255
theorem l_adv1 {cl : mm_F} (hB : pp_by (S.A 2) (S.I 1 2)) (hn : S.I 1 2 ≤ 400) : ∀ (j n : Nat) (p : Int), 0 ≤ p → p + j = S.I 1 2 → 2 * j + 1 < n → ∃ m, n ≤ m + 2 * j + 1 ∧ mm_r95_8 E cl n (mm_ad B 1) (mm_hp B (S.sI 1 3 p) c) = mm_r95_60 E cl m (mm_ad B 1) (mm_hp B (S.sI 1 3 (pp_sk (S.A 2) (S.I 1 2) j p)) c) := by
  intro j
  induction j with
  | zero =>
    intro n p p0 hp hj
    obtain ⟨n, rfl⟩ : ∃ q, n = q + 1 := ⟨n - 1, by omega⟩
    refine ⟨n, by omega, ?_⟩
    rw [mm_e95_8]
    simp (disch := omega) only [mm_ptT, mm_gs, pp_ne, mm_br_le]
    rw [if_pos (by omega)]
    rfl
  | succ j ih =>
    intro n p p0 hp hj
    obtain ⟨n, rfl⟩ : ∃ q, n = q + 2 := ⟨n - 2, by omega⟩
    have b := hB p p0 (by omega)
    rw [mm_e95_8]
    simp (disch := omega) only [mm_ptT, mm_gs, pp_ne, mm_br_le, mm_br_eq, mm_e95_47, mm_hm]
    rw [if_neg (by omega)]
    show ∃ m, _ ∧ _ = mm_r95_60 E cl m (mm_ad B 1) (mm_hp B (S.sI 1 3 (if p < S.I 1 2 ∧ (S.A 2 p = 32 ∨ S.A 2 p = 10) then pp_sk (S.A 2) (S.I 1 2) j (p + 1) else p)) c)
    by_cases e : S.A 2 p = 32 ∨ S.A 2 p = 10
    · obtain ⟨m, q1, q2⟩ := ih n (p + 1) (by omega) (by omega) (by omega)
      refine ⟨m, by omega, ?_⟩
      have c1 : p < S.I 1 2 ∧ (S.A 2 p = 32 ∨ S.A 2 p = 10) := ⟨by omega, e⟩
      simp only [if_pos c1]
      rw [← q2]
      by_cases f : S.A 2 p = 32
      · simp only [if_pos f]
      · have f2 := e.resolve_left f
        simp only [if_neg f, if_pos f2]
    · refine ⟨n + 1, by omega, ?_⟩
      have c1 : ¬ (p < S.I 1 2 ∧ (S.A 2 p = 32 ∨ S.A 2 p = 10)) := fun z => e z.2
      have c2 : ¬ S.A 2 p = 32 := fun z => e (Or.inl z)
      have c3 : ¬ S.A 2 p = 10 := fun z => e (Or.inr z)
      simp only [if_neg c1, if_neg c2, if_neg c3]
theorem l_adv2 (hd : 1 ≤ d) (hB : pp_by (S.A 2) (S.I 1 2)) (hn : S.I 1 2 ≤ 400) (hk : 0 ≤ S.I 1 5 ∧ S.I 1 5 ≤ 3) : ∀ (j n : Nat) (p : Int), 0 ≤ p → p + j = S.I 1 2 → j < n → mm_r95_124 E (mm_ev E d) n (mm_ad B 1) (mm_hp B (S.sI 1 4 p) c) = mm_oV (mm_hp B (S.sI 1 4 (pp_ex (S.A 2) (S.I 1 2) (S.I 1 5) j p)) c) := by
  intro j
  induction j with
  | zero =>
    intro n p p0 hp hj
    obtain ⟨n, rfl⟩ : ∃ q, n = q + 1 := ⟨n - 1, by omega⟩
    rw [mm_e95_124]
    simp (disch := omega) only [mm_ptT, mm_gs, pp_ne, mm_br_le]
    rw [if_pos (by omega)]
    rfl
  | succ j ih =>
    intro n p p0 hp hj
    obtain ⟨n, rfl⟩ : ∃ q, n = q + 1 := ⟨n - 1, by omega⟩
    have b := hB p p0 (by omega)
    have kr := pp_kd_r (S.A 2 p)
    rw [mm_e95_124]
    simp (disch := omega) only [mm_ptT, mm_gs, pp_ne, mm_br_le, c_kindOf, mm_hm, mm_br_eq]
    rw [if_neg (by omega)]
    show _ = mm_oV (mm_hp B (S.sI 1 4 (if p < S.I 1 2 ∧ pp_kd (S.A 2 p) = S.I 1 5 then pp_ex (S.A 2) (S.I 1 2) (S.I 1 5) j (p + 1) else p)) c)
    by_cases e : pp_kd (S.A 2 p) = S.I 1 5
    · rw [if_pos e, if_pos ⟨by omega, e⟩]
      exact ih n (p + 1) (by omega) (by omega) (by omega)
    · rw [if_neg e, if_neg (fun z => e z.2)]
theorem c_advance (hd : 2 ≤ d) (hB : pp_by (S.A 2) (S.I 1 2)) (hn : S.I 1 2 ≤ 400) (h0 : 0 ≤ S.I 1 4) (h1 : S.I 1 4 ≤ S.I 1 2) : mm_ev E d 95 [.ref (mm_ad B 1)] (mm_hp B S c) = mm_oV (mm_hp B (((S.sI 1 3 (pp_tb (S.A 2) (S.I 1 2) (S.I 1 4))).sI 1 4 (pp_te (S.A 2) (S.I 1 2) (S.I 1 4))).sI 1 5 (pp_tk (S.A 2) (S.I 1 2) (S.I 1 4))) c) := by
  refine mm_v95 (by omega) (fun F e hF he => ?_)
  have tb := pp_tb_r (t := S.A 2) h0 h1
  have tk := pp_tk_r (S.A 2) (S.I 1 2) (S.I 1 4)
  rw [mm_e95_0]
  simp (disch := omega) only [mm_ptT]
  obtain ⟨m, q1, q2⟩ := l_adv1 (E := E) (B := B) (S := S) (c := c) (cl := mm_ev E e) hB hn (S.I 1 2 - S.I 1 4).toNat (F + 99) (S.I 1 4) h0 (by omega) (by omega)
  rw [q2, show pp_sk (S.A 2) (S.I 1 2) (S.I 1 2 - S.I 1 4).toNat (S.I 1 4) = pp_tb (S.A 2) (S.I 1 2) (S.I 1 4) from rfl]
  obtain ⟨m, rfl⟩ : ∃ q, m = q + 2 := ⟨m - 2, by omega⟩
  have key : mm_r95_60 E (mm_ev E e) (m + 2) (mm_ad B 1) (mm_hp B (S.sI 1 3 (pp_tb (S.A 2) (S.I 1 2) (S.I 1 4))) c) = mm_r95_88 E (mm_ev E e) (m + 1) (mm_ad B 1) (mm_ad B 1) (mm_i (pp_tk (S.A 2) (S.I 1 2) (S.I 1 4))) (mm_hp B (S.sI 1 3 (pp_tb (S.A 2) (S.I 1 2) (S.I 1 4))) c) := by
    rw [mm_e95_60]
    simp (disch := omega) only [mm_ptT, mm_gs, pp_ne, mm_br_le]
    by_cases l : S.I 1 2 ≤ pp_tb (S.A 2) (S.I 1 2) (S.I 1 4)
    · rw [if_pos l, show pp_tk (S.A 2) (S.I 1 2) (S.I 1 4) = 0 by unfold pp_tk; rw [if_neg (by omega)]]
    · have b := hB (pp_tb (S.A 2) (S.I 1 2) (S.I 1 4)) (by omega) (by omega)
      rw [if_neg l]
      simp (disch := omega) only [mm_ptT, c_kindOf, mm_hm]
      rw [show pp_tk (S.A 2) (S.I 1 2) (S.I 1 4) = pp_kd (S.A 2 (pp_tb (S.A 2) (S.I 1 2) (S.I 1 4))) by unfold pp_tk; rw [if_pos (by omega)]]
  rw [key, mm_e95_88]
  simp (disch := omega) only [mm_ptT, mm_gs, pp_ne, mm_hm, mm_i_mn, mm_br_eq]
  by_cases w : pp_tk (S.A 2) (S.I 1 2) (S.I 1 4) = 1 ∨ pp_tk (S.A 2) (S.I 1 2) (S.I 1 4) = 2
  · have l : pp_tb (S.A 2) (S.I 1 2) (S.I 1 4) < S.I 1 2 := by
      by_cases l : pp_tb (S.A 2) (S.I 1 2) (S.I 1 4) < S.I 1 2
      · exact l
      · unfold pp_tk at w
        rw [if_neg l] at w
        omega
    have u := l_adv2 (E := E) (d := e) (B := B) (S := (S.sI 1 3 (pp_tb (S.A 2) (S.I 1 2) (S.I 1 4))).sI 1 5 (pp_tk (S.A 2) (S.I 1 2) (S.I 1 4))) (c := c) (by omega) (by simp (disch := omega) only [mm_gs, pp_ne]; exact hB) (by simp (disch := omega) only [mm_gs, pp_ne]; exact hn) (by simp (disch := omega) only [mm_gs, pp_ne]; exact tk) (S.I 1 2 - (pp_tb (S.A 2) (S.I 1 2) (S.I 1 4) + 1)).toNat m (pp_tb (S.A 2) (S.I 1 2) (S.I 1 4) + 1) (by omega) (by simp (disch := omega) only [mm_gs, pp_ne]; omega) (by omega)
    simp (disch := omega) only [mm_gs, pp_ne] at u
    have te : pp_te (S.A 2) (S.I 1 2) (S.I 1 4) = pp_ex (S.A 2) (S.I 1 2) (pp_tk (S.A 2) (S.I 1 2) (S.I 1 4)) (S.I 1 2 - (pp_tb (S.A 2) (S.I 1 2) (S.I 1 4) + 1)).toNat (pp_tb (S.A 2) (S.I 1 2) (S.I 1 4) + 1) := by unfold pp_te; rw [if_pos w]
    rw [← te] at u
    rw [show min (pp_tb (S.A 2) (S.I 1 2) (S.I 1 4) + 1) (S.I 1 2) = pp_tb (S.A 2) (S.I 1 2) (S.I 1 4) + 1 by omega]
    have fin : mm_r95_124 E (mm_ev E e) m (mm_ad B 1) (mm_hp B (((S.sI 1 3 (pp_tb (S.A 2) (S.I 1 2) (S.I 1 4))).sI 1 5 (pp_tk (S.A 2) (S.I 1 2) (S.I 1 4))).sI 1 4 (pp_tb (S.A 2) (S.I 1 2) (S.I 1 4) + 1)) c) = mm_oV (mm_hp B (((S.sI 1 3 (pp_tb (S.A 2) (S.I 1 2) (S.I 1 4))).sI 1 4 (pp_te (S.A 2) (S.I 1 2) (S.I 1 4))).sI 1 5 (pp_tk (S.A 2) (S.I 1 2) (S.I 1 4))) c) := by
      rw [u]
      simp (disch := omega) only [pp_cm]
    rcases w with w | w
    · rw [if_pos w]; exact fin
    · rw [if_neg (by omega), if_pos w]; exact fin
  · have te : pp_te (S.A 2) (S.I 1 2) (S.I 1 4) = min (pp_tb (S.A 2) (S.I 1 2) (S.I 1 4) + 1) (S.I 1 2) := by unfold pp_te; rw [if_neg w]
    rw [if_neg (by omega), if_neg (by omega), te]
    simp (disch := omega) only [pp_cm]
end TOK
