/-! NUMBERS of the model -/
theorem pp_ex_k {t : Int → Int} {n k : Int} : ∀ (j : Nat) (p i : Int), p ≤ i → i < pp_ex t n k j p → pp_kd (t i) = k
  | 0, p, i, h0, h1 => by
    have : pp_ex t n k 0 p = p := rfl
    omega
  | j + 1, p, i, h0, h1 => by
    have e : pp_ex t n k (j + 1) p = if p < n ∧ pp_kd (t p) = k then pp_ex t n k j (p + 1) else p := rfl
    rw [e] at h1
    by_cases f : p < n ∧ pp_kd (t p) = k
    · rw [if_pos f] at h1
      by_cases g : i = p
      · rw [g]; exact f.2
      · exact pp_ex_k j (p + 1) i (by omega) h1
    · rw [if_neg f] at h1
      omega
theorem pp_te_k {t : Int → Int} {n p k : Int} (hk : pp_tk t n p = k) (h12 : k = 1 ∨ k = 2) {i : Int} (h0 : pp_tb t n p ≤ i) (h1 : i < pp_te t n p) : pp_kd (t i) = k := by
  have te : pp_te t n p = pp_ex t n k (n - (pp_tb t n p + 1)).toNat (pp_tb t n p + 1) := by
    unfold pp_te; rw [hk, if_pos h12]
  by_cases g : i = pp_tb t n p
  · have l : pp_tb t n p < n := pp_tk3 (by omega)
    rw [g, ← hk]
    unfold pp_tk
    rw [if_pos l]
  · exact pp_ex_k _ _ i (show pp_tb t n p + 1 ≤ i by omega) (te ▸ h1)
/-- the token at hand is figures where its kind says so -/
def pp_KF (t : Int → Int) (k b e : Int) : Prop := k = 2 → ∀ i : Int, b ≤ i → i < e → 48 ≤ t i ∧ t i ≤ 57
theorem pp_KF_t {t : Int → Int} {n p : Int} : pp_KF t (pp_tk t n p) (pp_tb t n p) (pp_te t n p) := fun hk i h0 h1 => (pp_kd2 _).mpr (pp_te_k hk (Or.inr rfl) h0 h1)
theorem pp_nm_q {t : Int → Int} {b e cap : Int} (hc : 0 ≤ cap) (h : ∀ i : Int, b ≤ i → i < e → 48 ≤ t i ∧ t i ≤ 57) : ∀ (j : Nat) (p v : Int), b ≤ p → p + j = e → 0 ≤ v → v ≤ cap → 0 ≤ pp_nm t cap j p v ∧ pp_nm t cap j p v ≤ cap
  | 0, _, v, _, _, v0, v1 => ⟨v0, v1⟩
  | j + 1, p, v, p0, hp, v0, v1 => by
    have d := h p p0 (by omega)
    exact pp_nm_q hc h j (p + 1) _ (by omega) (by omega) (by omega) (by omega)
theorem pp_nm_c2 {t : Int → Int} {b e : Int} (h : ∀ i : Int, b ≤ i → i < e → 48 ≤ t i ∧ t i ≤ 57) : ∀ (j : Nat) (p v w : Int), b ≤ p → p + j = e → 0 ≤ v → w = min v 10000 → pp_nm t 10000 j p w = min (pp_nm t 1000000 j p v) 10000
  | 0, _, v, w, _, _, _, hw => hw
  | j + 1, p, v, w, p0, hp, v0, hw => by
    have d := h p p0 (by omega)
    show pp_nm t 10000 j (p + 1) (min (w * 10 + t p - 48) 10000) = min (pp_nm t 1000000 j (p + 1) (min (v * 10 + t p - 48) 1000000)) 10000
    exact pp_nm_c2 h j (p + 1) _ _ (by omega) (by omega) (by omega) (by omega)
section NUM
variable {E : mm_E} {d B : Nat} {S : mm_S} {c : mm_N}
theorem l_readNumber {x : Int} (hd : 3 ≤ d) (hK : pp_KM S) (b : S.I 101 32 = 0) (hx : 0 ≤ x ∧ x ≤ 10000) (h : ∀ i : Int, S.I 101 30 ≤ i → i < S.I 101 31 → 48 ≤ S.A 122 i ∧ S.A 122 i ≤ 57) : ∀ (j n : Nat) (p v : Int), S.I 101 30 ≤ p → p + j = S.I 101 31 → j < n → 0 ≤ v → v ≤ 10000 → mm_r239_27 E (mm_ev E d) n (mm_ad B 101) (mm_i x) (mm_i v) (mm_i p) (mm_hp B S c) = mm_oI (pp_nm (S.A 122) 10000 j p v) (mm_hp B (if pp_nm (S.A 122) 10000 j p v ≤ x then pp_tM S (S.I 101 28) else (S.sI 101 32 2).sI 101 33 (S.I 101 30)) c) := by
  have hK' := hK
  obtain ⟨hB, hn, a1, a2, a3, a4, a5, a6, a7, b0, b1⟩ := hK'
  intro j
  induction j with
  | zero =>
    intro n p v p0 hp hj v0 v1
    obtain ⟨n, rfl⟩ : ∃ q, n = q + 1 := ⟨n - 1, by omega⟩
    have e0 : pp_nm (S.A 122) 10000 0 p v = v := rfl
    rw [mm_e239_27, e0]
    simp (disch := omega) only [mm_ptM, mm_br_eq, mm_br_le]
    rw [if_pos b, if_pos (by omega)]
    by_cases g : v ≤ x
    · rw [if_pos g, if_pos g, m_pass (by omega) hK, mm_cV_ok, if_pos b]
    · rw [if_neg g, if_neg g, m_wrong (by omega) ⟨b0, b1⟩, mm_cV_ok, if_pos b, m_pass (by omega) (pp_KM_w hK (by omega) (by omega)), mm_cV_ok]
      simp (disch := omega) only [mm_gs, pp_ne]
      rw [if_neg (by omega)]
  | succ j ih =>
    intro n p v p0 hp hj v0 v1
    obtain ⟨n, rfl⟩ : ∃ q, n = q + 1 := ⟨n - 1, by omega⟩
    have dd := h p p0 (by omega)
    have e1 : pp_nm (S.A 122) 10000 (j + 1) p v = pp_nm (S.A 122) 10000 j (p + 1) (min (v * 10 + S.A 122 p - 48) 10000) := rfl
    have e2 : min 10000 (10 * v + S.A 122 p - 48) = min (v * 10 + S.A 122 p - 48) 10000 := by omega
    rw [mm_e239_27, e1]
    simp (disch := omega) only [mm_ptM, mm_br_eq, mm_br_le, mm_hm, mm_i_mn]
    rw [if_pos b, if_neg (by omega), e2]
    exact ih n (p + 1) _ (by omega) (by omega) (by omega) (by omega) (by omega)
theorem m_readNumber {x : Int} (hd : 4 ≤ d) (hK : pp_KM S) (hF : pp_KF (S.A 122) (S.I 101 29) (S.I 101 30) (S.I 101 31)) (hx : 0 ≤ x ∧ x ≤ 10000) : mm_ev E d 239 [.ref (mm_ad B 101), .int (mm_i x)] (mm_hp B S c) = if S.I 101 32 = 0 then (if S.I 101 29 = 2 then mm_oI (pp_nm (S.A 122) 10000 (S.I 101 31 - S.I 101 30).toNat (S.I 101 30) 0) (mm_hp B (if pp_nm (S.A 122) 10000 (S.I 101 31 - S.I 101 30).toNat (S.I 101 30) 0 ≤ x then pp_tM S (S.I 101 28) else (S.sI 101 32 2).sI 101 33 (S.I 101 30)) c) else mm_oI 0 (mm_hp B ((S.sI 101 32 1).sI 101 33 (S.I 101 30)) c)) else mm_oI 0 (mm_hp B S c) := by
  refine mm_v239 (by omega) (fun F e hF' he => ?_)
  have hK' := hK
  obtain ⟨hB, hn, a1, a2, a3, a4, a5, a6, a7, b0, b1⟩ := hK'
  have no : ∀ (T : mm_S) (p : Int), pp_KM T → T.I 101 32 ≠ 0 → mm_r239_27 E (mm_ev E e) (F + 99) (mm_ad B 101) (mm_i x) (mm_i 0) (mm_i p) (mm_hp B T c) = mm_oI 0 (mm_hp B T c) := fun T p hT b => by
    have hT' := hT
    obtain ⟨_, _, _, _, _, _, _, _, _, t0, t1⟩ := hT'
    rw [mm_e239_27]
    simp (disch := omega) only [mm_ptM, mm_br_eq, mm_br_le]
    rw [if_neg b, if_pos hx.1, m_pass (by omega) hT, mm_cV_ok, if_neg b]
  rw [mm_e239_0]
  simp (disch := omega) only [mm_ptM, mm_br_eq]
  by_cases b : S.I 101 32 = 0
  · rw [if_pos b, if_pos b]
    by_cases k : S.I 101 29 = 2
    · rw [if_pos k, if_pos k]
      exact l_readNumber (by omega) hK b hx (hF k) _ (F + 99) (S.I 101 30) 0 (by omega) (by omega) (by omega) (by omega) (by omega)
    · rw [if_neg k, if_neg k, m_wrong (by omega) ⟨b0, b1⟩, mm_cV_ok, if_pos b]
      simp (disch := omega) only [mm_ptM, mm_gs, pp_ne]
      exact no _ _ (pp_KM_w hK (by omega) (by omega)) (by simp (disch := omega) only [mm_gs, pp_ne]; omega)
  · rw [if_neg b, if_neg b]
    exact no S _ hK b
end NUM
