/-! WORDS of the model; signs; numbers -/
/-- a row of figures read, capped -/
def pp_nm (t : Int → Int) (cap : Int) : Nat → Int → Int → Int
  | 0, _, v => v
  | j + 1, p, v => pp_nm t cap j (p + 1) (min (v * 10 + t p - 48) cap)
theorem pp_nm_cap {t : Int → Int} {e : Int} (h : ∀ i : Int, 0 ≤ i → i < e → 48 ≤ t i ∧ t i ≤ 57) : ∀ (j : Nat) (p v w : Int), 0 ≤ p → p + j = e → 0 ≤ v → w = min v 10000 → pp_nm t 10000 j p w = min (pp_nm t 1000000 j p v) 10000
  | 0, _, v, w, _, _, _, hw => hw
  | j + 1, p, v, w, p0, hp, v0, hw => by
    have d := h p p0 (by omega)
    show pp_nm t 10000 j (p + 1) (min (w * 10 + t p - 48) 10000) = min (pp_nm t 1000000 j (p + 1) (min (v * 10 + t p - 48) 1000000)) 10000
    exact pp_nm_cap h j (p + 1) _ _ (by omega) (by omega) (by omega) (by omega)
theorem pp_nm_r {t : Int → Int} {e cap : Int} (hc : 0 ≤ cap) (h : ∀ i : Int, 0 ≤ i → i < e → 48 ≤ t i ∧ t i ≤ 57) : ∀ (j : Nat) (p v : Int), 0 ≤ p → p + j = e → 0 ≤ v → v ≤ cap → 0 ≤ pp_nm t cap j p v ∧ pp_nm t cap j p v ≤ cap
  | 0, _, v, _, _, v0, v1 => ⟨v0, v1⟩
  | j + 1, p, v, p0, hp, v0, v1 => by
    have d := h p p0 (by omega)
    exact pp_nm_r hc h j (p + 1) _ (by omega) (by omega) (by omega) (by omega)
section WORD2
variable {E : mm_E} {d B : Nat} {S : mm_S} {c : mm_N}
theorem l_isWord {i : Nat} (hE : pp_OE E B) (hi : i < 56) (hB : pp_by (S.A 122) (S.I 101 27)) (hn : S.I 101 27 ≤ 400) (h0 : 0 ≤ S.I 101 30) (h1 : S.I 101 30 + (pp_tx i).length ≤ S.I 101 27) {cl : mm_F} : ∀ (j n : Nat) (k : Int), 0 ≤ k → k + j = (pp_tx i).length → j + 1 < n → mm_r235_39 E cl n (mm_ad B 101) (E.2.2.1 i) (mm_i 1) (mm_i k) (mm_hp B S c) = mm_oI (mm_b1 (pp_ce (S.A 122) (S.I 101 30 + k) ((pp_tx i).drop k.toNat))) (mm_hp B S c) := by
  have hl := pp_tx_len i hi
  rw [← pp_tx_length] at hl
  intro j
  induction j with
  | zero =>
    intro n k k0 hk hj
    obtain ⟨n, rfl⟩ : ∃ q, n = q + 1 := ⟨n - 1, by omega⟩
    rw [mm_e235_39, mm_br_eq (by omega) (by omega) (by omega) (by omega), if_neg (by omega), pp_slE hE hi, mm_br_le (by omega) (by omega) (by omega) (by omega), if_pos (by omega), List.drop_of_length_le (by omega), mm_bz1]
    rfl
  | succ j ih =>
    intro n k k0 hk hj
    obtain ⟨n, rfl⟩ : ∃ q, n = q + 2 := ⟨n - 2, by omega⟩
    have x := pp_tx_in (i := i) (k := k.toNat) hi
    have y := hB (S.I 101 30 + k) (by omega) (by omega)
    have dr : (pp_tx i).drop k.toNat = (pp_tx i).getD k.toNat 0 :: (pp_tx i).drop (k + 1).toNat := by
      rw [List.drop_eq_getElem_cons (by omega), show (k + 1).toNat = k.toNat + 1 by omega, List.getD_eq_getElem?_getD, List.getElem?_eq_getElem (by omega)]
      rfl
    rw [mm_e235_39, mm_br_eq (by omega) (by omega) (by omega) (by omega), if_neg (by omega), pp_slE hE hi, mm_br_le (by omega) (by omega) (by omega) (by omega), if_neg (by omega), pp_saE hE hi k0 (by omega), dr]
    simp (disch := omega) only [mm_ptM, mm_hm, mm_br_eq]
    show _ = mm_oI (mm_b1 (decide (S.A 122 (S.I 101 30 + k) = (pp_tx i).getD k.toNat 0) && pp_ce (S.A 122) (S.I 101 30 + k + 1) ((pp_tx i).drop (k + 1).toNat))) (mm_hp B S c)
    by_cases e : (pp_tx i).getD k.toNat 0 = S.A 122 (S.I 101 30 + k)
    · rw [if_pos e, decide_eq_true e.symm, Bool.true_and, ih (n + 1) (k + 1) (by omega) (by omega) (by omega), show S.I 101 30 + (k + 1) = S.I 101 30 + k + 1 by omega]
    · rw [if_neg e, decide_eq_false (fun z => e z.symm), Bool.false_and, mm_e235_39, mm_br_t rfl, mm_bz0]
      rfl
theorem m_isWord {i : Nat} (hE : pp_OE E B) (hd : 1 ≤ d) (hi : i < 56) (hB : pp_by (S.A 122) (S.I 101 27)) (hn : S.I 101 27 ≤ 400) (h0 : 0 ≤ S.I 101 30) (h1 : S.I 101 30 ≤ S.I 101 31) (h2 : S.I 101 31 ≤ S.I 101 27) (hb : 0 ≤ S.I 101 32 ∧ S.I 101 32 ≤ 5) (hk : 0 ≤ S.I 101 29 ∧ S.I 101 29 ≤ 3) : mm_ev E d 235 [.ref (mm_ad B 101), .ref (E.2.2.1 i)] (mm_hp B S c) = mm_oI (mm_b1 (decide (S.I 101 32 = 0) && (decide (S.I 101 29 = 1) && pp_wd (S.A 122) (S.I 101 30) (S.I 101 31) (pp_tx i)))) (mm_hp B S c) := by
  refine mm_v235 (by omega) (fun F e hF he => ?_)
  have hl := pp_tx_len i hi
  rw [← pp_tx_length] at hl
  have no : mm_r235_39 E (mm_ev E e) (F + 99) (mm_ad B 101) (E.2.2.1 i) (mm_i 0) (mm_i 0) (mm_hp B S c) = mm_oI 0 (mm_hp B S c) := by
    rw [mm_e235_39, mm_br_t rfl, mm_bz0]
  rw [mm_e235_0, pp_slE hE hi]
  simp (disch := omega) only [mm_ptM, mm_br_eq, mm_hm]
  by_cases b : S.I 101 32 = 0
  · rw [if_pos b, decide_eq_true b, Bool.true_and]
    by_cases k : S.I 101 29 = 1
    · rw [if_pos k, decide_eq_true k, Bool.true_and]
      unfold pp_wd
      by_cases l : (((pp_tx i).length : Nat) : Int) = S.I 101 31 - S.I 101 30
      · rw [if_pos l, decide_eq_true l.symm, Bool.true_and]
        have u := l_isWord (E := E) (B := B) (S := S) (c := c) (cl := mm_ev E e) hE hi hB hn h0 (by omega) (pp_tx i).length (F + 99) 0 (by omega) (by omega) (by omega)
        rw [Int.add_zero] at u
        exact u
      · rw [if_neg l, decide_eq_false (fun z => l z.symm), Bool.false_and, no]; rfl
    · rw [if_neg k, decide_eq_false k, Bool.false_and, no]; rfl
  · rw [if_neg b, decide_eq_false b, Bool.false_and, no]; rfl
theorem c_isSign {x : Int} (hd : 1 ≤ d) (hB : pp_by (S.A 2) (S.I 1 2)) (hn : S.I 1 2 ≤ 400) (h0 : 0 ≤ S.I 1 3) (h1 : S.I 1 5 = 3 → S.I 1 3 < S.I 1 2) (hk : 0 ≤ S.I 1 5 ∧ S.I 1 5 ≤ 3) (hx : 0 ≤ x ∧ x ≤ 255) : mm_ev E d 96 [.ref (mm_ad B 1), .int (mm_i x)] (mm_hp B S c) = mm_oI (mm_b1 (decide (S.I 1 5 = 3) && decide (S.A 2 (S.I 1 3) = x))) (mm_hp B S c) := by
  refine mm_v96 (by omega) (fun F e hF he => ?_)
  rw [mm_e96_0]
  simp (disch := omega) only [mm_ptT, mm_br_eq]
  by_cases k : S.I 1 5 = 3
  · have l := h1 k
    have b := hB (S.I 1 3) h0 l
    rw [if_pos k, decide_eq_true k, Bool.true_and]
    simp (disch := omega) only [mm_ptT, mm_br_eq, mm_bz0, mm_bz1]
    by_cases g : S.A 2 (S.I 1 3) = x
    · rw [if_pos g, decide_eq_true g]; rfl
    · rw [if_neg g, decide_eq_false g]; rfl
  · rw [if_neg k, decide_eq_false k, mm_bz0]; rfl
theorem m_isSign {x : Int} (hd : 1 ≤ d) (hB : pp_by (S.A 122) (S.I 101 27)) (hn : S.I 101 27 ≤ 400) (h0 : 0 ≤ S.I 101 30) (h1 : S.I 101 29 = 3 → S.I 101 30 < S.I 101 27) (hb : 0 ≤ S.I 101 32 ∧ S.I 101 32 ≤ 5) (hk : 0 ≤ S.I 101 29 ∧ S.I 101 29 ≤ 3) (hx : 0 ≤ x ∧ x ≤ 255) : mm_ev E d 234 [.ref (mm_ad B 101), .int (mm_i x)] (mm_hp B S c) = mm_oI (mm_b1 (decide (S.I 101 32 = 0) && (decide (S.I 101 29 = 3) && decide (S.A 122 (S.I 101 30) = x)))) (mm_hp B S c) := by
  refine mm_v234 (by omega) (fun F e hF he => ?_)
  rw [mm_e234_0]
  simp (disch := omega) only [mm_ptM, mm_br_eq]
  by_cases b : S.I 101 32 = 0
  · rw [if_pos b, decide_eq_true b, Bool.true_and]
    by_cases k : S.I 101 29 = 3
    · have l := h1 k
      have by2 := hB (S.I 101 30) h0 l
      rw [if_pos k, decide_eq_true k, Bool.true_and]
      simp (disch := omega) only [mm_ptM, mm_br_eq, mm_bz0, mm_bz1]
      by_cases g : S.A 122 (S.I 101 30) = x
      · rw [if_pos g, decide_eq_true g]; rfl
      · rw [if_neg g, decide_eq_false g]; rfl
    · rw [if_neg k, decide_eq_false k, mm_bz0]; rfl
  · rw [if_neg b, decide_eq_false b, mm_bz0]; rfl
theorem m_wrong {k : Int} (hd : 1 ≤ d) (hb : 0 ≤ S.I 101 32 ∧ S.I 101 32 ≤ 5) : mm_ev E d 233 [.ref (mm_ad B 101), .int (mm_i k)] (mm_hp B S c) = mm_oV (mm_hp B (if S.I 101 32 = 0 then (S.sI 101 32 k).sI 101 33 (S.I 101 30) else S) c) := by
  refine mm_v233 (by omega) (fun F e hF he => ?_)
  rw [mm_e233_0]
  simp (disch := omega) only [mm_ptM, mm_br_eq, mm_gs, pp_ne]
  by_cases b : S.I 101 32 = 0
  · rw [if_pos b, if_pos b]
  · rw [if_neg b, if_neg b]
theorem l_number {e : Int} (he : e = S.I 1 4) (hn : S.I 1 4 ≤ 400) (h : ∀ i : Int, S.I 1 3 ≤ i → i < S.I 1 4 → 48 ≤ S.A 2 i ∧ S.A 2 i ≤ 57) (h0 : 0 ≤ S.I 1 3) {cl : mm_F} : ∀ (j n : Nat) (p v : Int), S.I 1 3 ≤ p → p + j = S.I 1 4 → j < n → 0 ≤ v → v ≤ 1000000 → mm_r99_7 E cl n (mm_ad B 1) (mm_i v) (mm_i p) (mm_hp B S c) = mm_oI (pp_nm (S.A 2) 1000000 j p v) (mm_hp B S c) := by
  intro j
  induction j with
  | zero =>
    intro n p v p0 hp hj v0 v1
    obtain ⟨n, rfl⟩ : ∃ q, n = q + 1 := ⟨n - 1, by omega⟩
    rw [mm_e99_7]
    simp (disch := omega) only [mm_ptT, mm_br_le]
    rw [if_pos (by omega)]
    rfl
  | succ j ih =>
    intro n p v p0 hp hj v0 v1
    obtain ⟨n, rfl⟩ : ∃ q, n = q + 1 := ⟨n - 1, by omega⟩
    have d := h p p0 (by omega)
    rw [mm_e99_7]
    simp (disch := omega) only [mm_ptT, mm_br_le, mm_hm, mm_i_mn]
    rw [if_neg (by omega)]
    exact ih n (p + 1) _ (by omega) (by omega) (by omega) (by omega) (by omega)
theorem c_number (hd : 1 ≤ d) (hn : S.I 1 4 ≤ 400) (h0 : 0 ≤ S.I 1 3) (h1 : S.I 1 3 ≤ S.I 1 4) (h : ∀ i : Int, S.I 1 3 ≤ i → i < S.I 1 4 → 48 ≤ S.A 2 i ∧ S.A 2 i ≤ 57) : mm_ev E d 99 [.ref (mm_ad B 1)] (mm_hp B S c) = mm_oI (pp_nm (S.A 2) 1000000 (S.I 1 4 - S.I 1 3).toNat (S.I 1 3) 0) (mm_hp B S c) := by
  refine mm_v99 (by omega) (fun F e hF he => ?_)
  rw [mm_e99_0]
  simp (disch := omega) only [mm_ptT]
  exact l_number (cl := mm_ev E e) rfl hn h h0 _ (F + 99) (S.I 1 3) 0 (by omega) (by omega) (by omega) (by omega) (by omega)
end WORD2
