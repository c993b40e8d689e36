/-! ASK: words; what a reading of a question leaves as it is -/
/-- the first of these words that is at hand -/
def aq_find (S : mm_S) : List Nat → Int → Int
  | [], _ => -1
  | x :: r, i => if rd_is S (pp_tx x) = true then i else aq_find S r (i + 1)
def aq_cat : List Nat → List Int
  | [] => []
  | x :: r => pp_tx x ++ 32 :: aq_cat r
theorem aq_am {S : mm_S} (hk : S.I 1 5 = 1) : ∀ (l : List Nat) (i : Int), (∀ x ∈ l, ∀ y ∈ pp_tx x, y ≠ 32) → pp_am (S.A 2) (S.I 1 3) (S.I 1 4) (aq_cat l) i (S.I 1 3) true = aq_find S l i
  | [], _, _ => rfl
  | x :: r, i, h => by
    show pp_am (S.A 2) (S.I 1 3) (S.I 1 4) (pp_tx x ++ 32 :: aq_cat r) i (S.I 1 3) true = if rd_is S (pp_tx x) = true then i else aq_find S r (i + 1)
    rw [pp_am_w _ _ _ _ (h x List.mem_cons_self), aq_am hk r (i + 1) (fun y hy => h y (List.mem_cons_of_mem x hy)), Bool.true_and]
    unfold rd_is
    rw [decide_eq_true hk, Bool.true_and]
theorem aq_no {S : mm_S} (hk : S.I 1 5 ≠ 1) : ∀ (l : List Nat) (i : Int), aq_find S l i = -1
  | [], _ => rfl
  | x :: r, i => by
    show (if rd_is S (pp_tx x) = true then i else aq_find S r (i + 1)) = -1
    rw [if_neg (by unfold rd_is; rw [decide_eq_false hk, Bool.false_and]; decide), aq_no hk r (i + 1)]
theorem aq_find_r {S : mm_S} : ∀ (l : List Nat) (i : Int), 0 ≤ i → aq_find S l i = -1 ∨ (i ≤ aq_find S l i ∧ aq_find S l i < i + l.length)
  | [], _, _ => Or.inl rfl
  | x :: r, i, h => by
    show (if rd_is S (pp_tx x) = true then i else aq_find S r (i + 1)) = -1 ∨ (i ≤ (if rd_is S (pp_tx x) = true then i else aq_find S r (i + 1)) ∧ (if rd_is S (pp_tx x) = true then i else aq_find S r (i + 1)) < i + ((r.length + 1 : Nat) : Int))
    by_cases q : rd_is S (pp_tx x) = true
    · rw [if_pos q]; exact Or.inr (by omega)
    · rw [if_neg q]
      rcases aq_find_r (S := S) r (i + 1) (by omega) with z | z
      · exact Or.inl z
      · exact Or.inr (by omega)
def aq_vl : List Nat := [37, 38, 39, 26, 40, 41, 28, 42, 43, 44, 45, 46, 47, 48, 49, 50, 51, 52, 53]
def aq_al : List Nat := [31, 32, 33, 34, 35]
theorem aq_tx20 : pp_tx 20 = aq_cat aq_vl := by decide +kernel
theorem aq_tx18 : pp_tx 18 = aq_cat aq_al := by decide +kernel
theorem aq_tx19 : pp_tx 19 = pp_tx 36 ++ [32] ∧ pp_tx 21 = pp_tx 54 ++ [32] ∧ pp_tx 22 = pp_tx 55 ++ [32] := by decide +kernel
theorem aq_t32 : ∀ i, 26 ≤ i → i < 56 → ∀ x ∈ pp_tx i, x ≠ 32 := by
  intro i i0 i1
  have h : ∀ i, i < 56 → 26 ≤ i → (pp_tx i).all (fun x => decide (x ≠ 32)) = true := by decide +kernel
  intro x hx
  exact of_decide_eq_true (List.all_eq_true.mp (h i i1 i0) x hx)
def aq_wd (S : mm_S) : Int := aq_find S aq_vl 0
/-- what stays -/
def aq_FS (S S' : mm_S) : Prop := (∀ x k, ¬ (x = 1 ∧ 3 ≤ k ∧ k ≤ 5) → ¬ (x = 97 ∧ (k = 4 ∨ k = 6)) → S'.I x k = S.I x k) ∧ (∀ x, x ≠ 98 → S'.A x = S.A x) ∧ (∀ i : Int, i < S.I 97 4 → S'.A 98 i = S.A 98 i) ∧ S.I 97 4 ≤ S'.I 97 4
def aq_FT (T T' : mm_S) : Prop := (∀ x k, ¬ (x = 101 ∧ ((28 ≤ k ∧ k ≤ 33) ∨ k = 35)) → T'.I x k = T.I x k) ∧ T'.A = T.A ∧ T'.L = T.L ∧ T'.J = T.J
theorem aq_FS_r (S : mm_S) : aq_FS S S := ⟨fun _ _ _ _ => rfl, fun _ _ => rfl, fun _ _ => rfl, Int.le_refl _⟩
theorem aq_FT_r (T : mm_S) : aq_FT T T := ⟨fun _ _ _ => rfl, rfl, rfl, rfl⟩
theorem aq_FS_t {S U V : mm_S} (h : aq_FS S U) (g : aq_FS U V) : aq_FS S V := ⟨fun x k a b => (g.1 x k a b).trans (h.1 x k a b), fun x a => (g.2.1 x a).trans (h.2.1 x a), fun i hi => (g.2.2.1 i (by have := h.2.2.2; omega)).trans (h.2.2.1 i hi), Int.le_trans h.2.2.2 g.2.2.2⟩
theorem aq_FT_t {S U V : mm_S} (h : aq_FT S U) (g : aq_FT U V) : aq_FT S V := ⟨fun x k a => (g.1 x k a).trans (h.1 x k a), g.2.1.trans h.2.1, g.2.2.1.trans h.2.2.1, g.2.2.2.trans h.2.2.2⟩
theorem aq_FS_s (S : mm_S) : aq_FS S (rd_s S) := ⟨fun _ _ a _ => rd_sI a, fun _ _ => rfl, fun _ _ => rfl, by rw [rd_sI (by omega)]; exact Int.le_refl _⟩
theorem aq_FT_m (T : mm_S) : aq_FT T (rd_m T) := ⟨fun _ _ a => rd_mI (by omega), rfl, rfl, rfl⟩
theorem aq_FT_w (T : mm_S) (v : Int) : aq_FT T (rd_w T v) := ⟨fun _ _ a => rd_wI (by omega), rfl, rfl, rfl⟩
theorem aq_FT_o (T : mm_S) (v : Int) : aq_FT T (T.sI 101 35 v) := ⟨fun _ _ a => mm_gI_ne (by omega), rfl, rfl, rfl⟩
theorem aq_FS_f (S : mm_S) (v : Int) : aq_FS S (S.sI 97 6 v) := ⟨fun _ _ _ b => mm_gI_ne (by omega), fun _ _ => rfl, fun _ _ => rfl, by rw [mm_gI_ne (by omega)]; exact Int.le_refl _⟩
/-- one mark more -/
def aq_mk (S : mm_S) (v : Int) : mm_S := (S.sA 98 (mm_u (S.A 98) (S.I 97 4) v)).sI 97 4 (S.I 97 4 + 1)
theorem aq_mk4 (S : mm_S) (v : Int) : (aq_mk S v).I 97 4 = S.I 97 4 + 1 := mm_gs.1 _ _ _ _
theorem aq_mkI {S : mm_S} {v : Int} {x k : Nat} (h : ¬ (x = 97 ∧ k = 4)) : (aq_mk S v).I x k = S.I x k := mm_gI_ne h
theorem aq_mkA (S : mm_S) (v : Int) : (aq_mk S v).A 98 = mm_u (S.A 98) (S.I 97 4) v := rfl
theorem aq_FS_mk (S : mm_S) (v : Int) : aq_FS S (aq_mk S v) := ⟨fun _ _ _ b => aq_mkI (by omega), fun x hx => mm_gA_ne hx, fun i hi => mm_u_ne (by omega), by rw [aq_mk4]; omega⟩
/-- both at one token of a question; k: whether it is asked; s: of which stage; p: brackets open -/
def aq_G (S T : mm_S) (k s p : Int) : Prop := rd_T S T ∧ S.I 97 6 = 0 ∧ T.I 101 37 = k ∧ T.I 101 36 = s ∧ T.I 101 35 = p ∧ S.I 1 2 ≤ 200 ∧ 0 ≤ S.I 97 4 ∧ S.I 97 4 ≤ S.I 1 3
def aq_X (S T : mm_S) : Prop := ∃ v, rd_B S T v ∧ S.I 97 6 = v
theorem aq_X_0 {S T : mm_S} (h : aq_X S T) : rd_M T ∧ T.I 101 32 ≠ 0 := by
  obtain ⟨v, ⟨h1, h2, h3, h4⟩, h5⟩ := h
  exact ⟨h1, by omega⟩
theorem aq_X_o {S T : mm_S} (h : aq_X S T) (v : Int) : aq_X S (T.sI 101 35 v) := by
  obtain ⟨w, ⟨h1, h2, h3, h4⟩, h5⟩ := h
  exact ⟨w, ⟨rd_M_c (T := T) (fun k hk => mm_gI_ne (by omega)) rfl h1, by rw [mm_gI_ne (by omega)]; exact h2, h3, by rw [mm_gI_ne (by omega)]; exact h4⟩, h5⟩
theorem aq_wX {S T : mm_S} {v : Int} (h : rd_T S T) (v0 : 1 ≤ v) (v1 : v ≤ 5) : aq_X (S.sI 97 6 v) (rd_w T v) := by
  have z := rd_wB h v0 v1
  refine ⟨v, ⟨z.1, z.2.1, z.2.2.1, ?_⟩, mm_gs.1 _ _ _ _⟩
  rw [z.2.2.2, mm_gI_ne (by omega)]
theorem aq_G_s {S T : mm_S} {k s p : Int} (h : aq_G S T k s p) : aq_G (rd_s S) (rd_m T) k s p ∧ S.I 1 4 ≤ (rd_s S).I 1 3 ∧ (rd_s S).I 97 4 = S.I 97 4 := by
  obtain ⟨h1, h2, h3, h4, h5, h6, h7, h8⟩ := h
  have n := rd_next h1
  have y := h1.1.2.2.2.1
  have e4 : (rd_s S).I 97 4 = S.I 97 4 := rd_sI (by omega)
  exact ⟨⟨n.1, by rw [rd_sI (by omega)]; exact h2, by rw [rd_mI (by omega)]; exact h3, by rw [rd_mI (by omega)]; exact h4, by rw [rd_mI (by omega)]; exact h5, by rw [rd_sI (by omega)]; exact h6, by rw [e4]; exact h7, by rw [e4]; omega⟩, n.2, e4⟩
theorem aq_G_mk {S T : mm_S} {k s p v : Int} (h : aq_G S T k s p) (hs : S.I 97 4 + 1 ≤ S.I 1 3) : aq_G (aq_mk S v) T k s p := by
  obtain ⟨h1, h2, h3, h4, h5, h6, h7, h8⟩ := h
  refine ⟨rd_T_c (S := S) (T := T) (fun k _ => aq_mkI (by omega)) rfl (fun _ _ => rfl) rfl h1, by rw [aq_mkI (by omega)]; exact h2, h3, h4, h5, by rw [aq_mkI (by omega)]; exact h6, by rw [aq_mk4]; omega, by rw [aq_mk4, aq_mkI (by omega)]; exact hs⟩
theorem aq_G_o {S T : mm_S} {k s p q : Int} (h : aq_G S T k s p) : aq_G S (T.sI 101 35 q) k s q := by
  obtain ⟨h1, h2, h3, h4, h5, h6, h7, h8⟩ := h
  exact ⟨rd_T_c (S := S) (T := T) (fun _ _ => rfl) rfl (fun k hk => mm_gI_ne (by omega)) rfl h1, h2, by rw [mm_gI_ne (by omega)]; exact h3, by rw [mm_gI_ne (by omega)]; exact h4, mm_gs.1 _ _ _ _, h6, h7, h8⟩
section
variable {E : mm_E} {d B : Nat} {S T : mm_S} {c : mm_N}
theorem c_refuseQ (hd : 1 ≤ d) (v : Int) : mm_ev E d 70 [.ref (mm_ad B 97), .int (mm_i v)] (mm_hp B S c) = mm_oI 0 (mm_hp B (S.sI 97 6 v) c) := by
  refine mm_v70 (by omega) (fun F e hF he => ?_)
  rw [mm_e70_0]
  simp (disch := omega) only [mm_ptQ, mm_bz0]
theorem c_mark (hd : 1 ≤ d) (v : Int) (h0 : 0 ≤ S.I 97 4) (h1 : S.I 97 4 < 200) : mm_ev E d 69 [.ref (mm_ad B 97), .int (mm_i v)] (mm_hp B S c) = mm_oI 1 (mm_hp B (aq_mk S v) c) := by
  refine mm_v69 (by omega) (fun F e hF he => ?_)
  rw [mm_e69_0]
  simp (disch := omega) only [mm_ptQ, mm_br_le]
  rw [if_neg (by omega)]
  simp (disch := omega) only [mm_ptQ, mm_bz1, mm_hm]
  rfl
theorem c_amongV (hE : pp_OE E B) (h : pp_KT S) (hd : 1 ≤ d) : mm_ev E d 98 [.ref (mm_ad B 1), .ref (E.2.2.1 20)] (mm_hp B S c) = mm_oI (aq_wd S) (mm_hp B S c) := by
  obtain ⟨k1, k2, k3, k4, k5, k6, k7, k8⟩ := h
  rw [c_among hE hd (by omega) k1 k2 k3 k4 k5 ⟨k6, k7⟩]
  unfold aq_wd
  by_cases q : S.I 1 5 = 1
  · rw [if_pos q, aq_tx20, aq_am q]
    intro x hx
    exact aq_t32 x (by revert hx; revert x; decide) (by revert hx; revert x; decide)
  · rw [if_neg q, aq_no q]
theorem c_amongA (hE : pp_OE E B) (h : pp_KT S) (hd : 1 ≤ d) : mm_ev E d 98 [.ref (mm_ad B 1), .ref (E.2.2.1 18)] (mm_hp B S c) = mm_oI (aq_find S aq_al 0) (mm_hp B S c) := by
  obtain ⟨k1, k2, k3, k4, k5, k6, k7, k8⟩ := h
  rw [c_among hE hd (by omega) k1 k2 k3 k4 k5 ⟨k6, k7⟩]
  by_cases q : S.I 1 5 = 1
  · rw [if_pos q, aq_tx18, aq_am q]
    intro x hx
    exact aq_t32 x (by revert hx; revert x; decide) (by revert hx; revert x; decide)
  · rw [if_neg q, aq_no q]
theorem m_lookW (hE : pp_OE E B) (h : rd_T S T) (hd : 2 ≤ d) : mm_ev E d 254 [.ref (mm_ad B 101)] (mm_hp B T c) = mm_oI 0 (mm_hp B (if aq_wd S = -1 then rd_w T 1 else T) c) := by
  refine mm_v254 (by omega) (fun F e hF he => ?_)
  have y206 : ∀ m, mm_r254_206 E (mm_ev E e) (m + 1) (mm_ad B 101) (mm_i 1) (mm_hp B T c) = mm_oI 0 (mm_hp B T c) := fun m => by rw [mm_e254_206, mm_br_eq (by omega) (by omega) (by omega) (by omega), if_neg (by omega)]
  have y200 : ∀ m x, mm_r254_200 E (mm_ev E e) (m + 2) (mm_ad B 101) x (mm_hp B T c) = mm_oI 0 (mm_hp B T c) := fun m x => by rw [mm_e254_200, y206]
  have y105 : ∀ m o, mm_r254_105 E (mm_ev E e) (m + 3) (mm_ad B 101) o (mm_i 1) (mm_hp B T c) = mm_oI 0 (mm_hp B T c) := fun m o => by rw [mm_e254_105, mm_br_eq (by omega) (by omega) (by omega) (by omega), if_neg (by omega), y200]
  have w : ∀ i, i < 56 → mm_ev E e 235 [.ref (mm_ad B 101), .ref (E.2.2.1 i)] (mm_hp B T c) = mm_oI (mm_b1 (rd_is S (pp_tx i))) (mm_hp B T c) := fun i hi => rd_isW hE h (by omega) hi
  obtain ⟨w0, hw⟩ : ∃ w0, w0 = aq_wd S := ⟨_, rfl⟩
  rw [← hw]
  unfold aq_wd aq_vl at hw
  simp only [aq_find] at hw
  rw [mm_e254_0, w 37 (by omega), mm_cI_ok, mm_br_b1]
  by_cases q1 : rd_is S (pp_tx 37) = true
  · rw [if_pos q1] at hw
    rw [if_pos q1, y105, if_neg (by omega)]
  rw [if_neg q1] at hw
  rw [if_neg q1, w 38 (by omega), mm_cI_ok, mm_br_b1]
  by_cases q2 : rd_is S (pp_tx 38) = true
  · rw [if_pos q2] at hw
    rw [if_pos q2, y105, if_neg (by omega)]
  rw [if_neg q2] at hw
  rw [if_neg q2, w 39 (by omega), mm_cI_ok, mm_br_b1]
  by_cases q3 : rd_is S (pp_tx 39) = true
  · rw [if_pos q3] at hw
    rw [if_pos q3, y105, if_neg (by omega)]
  rw [if_neg q3] at hw
  rw [if_neg q3, w 26 (by omega), mm_cI_ok, mm_br_b1]
  by_cases q4 : rd_is S (pp_tx 26) = true
  · rw [if_pos q4] at hw
    rw [if_pos q4, y105, if_neg (by omega)]
  rw [if_neg q4] at hw
  rw [if_neg q4, w 40 (by omega), mm_cI_ok, mm_br_b1]
  by_cases q5 : rd_is S (pp_tx 40) = true
  · rw [if_pos q5] at hw
    rw [if_pos q5, y105, if_neg (by omega)]
  rw [if_neg q5] at hw
  rw [if_neg q5, mm_e254_50, w 41 (by omega), mm_cI_ok, mm_br_b1]
  by_cases q6 : rd_is S (pp_tx 41) = true
  · rw [if_pos q6] at hw
    rw [if_pos q6, y105, if_neg (by omega)]
  rw [if_neg q6] at hw
  rw [if_neg q6, w 28 (by omega), mm_cI_ok, mm_br_b1]
  by_cases q7 : rd_is S (pp_tx 28) = true
  · rw [if_pos q7] at hw
    rw [if_pos q7, y105, if_neg (by omega)]
  rw [if_neg q7] at hw
  rw [if_neg q7, w 42 (by omega), mm_cI_ok, mm_br_b1]
  by_cases q8 : rd_is S (pp_tx 42) = true
  · rw [if_pos q8] at hw
    rw [if_pos q8, y105, if_neg (by omega)]
  rw [if_neg q8] at hw
  rw [if_neg q8, w 43 (by omega), mm_cI_ok, mm_br_b1]
  by_cases q9 : rd_is S (pp_tx 43) = true
  · rw [if_pos q9] at hw
    rw [if_pos q9, y105, if_neg (by omega)]
  rw [if_neg q9] at hw
  rw [if_neg q9, w 44 (by omega), mm_cI_ok, mm_br_b1]
  by_cases q10 : rd_is S (pp_tx 44) = true
  · rw [if_pos q10] at hw
    rw [if_pos q10, y105, if_neg (by omega)]
  rw [if_neg q10] at hw
  rw [if_neg q10, mm_e254_105, mm_br_t rfl, w 45 (by omega), mm_cI_ok, mm_br_b1]
  by_cases q11 : rd_is S (pp_tx 45) = true
  · rw [if_pos q11] at hw
    rw [if_pos q11, y200, if_neg (by omega)]
  rw [if_neg q11] at hw
  rw [if_neg q11, w 46 (by omega), mm_cI_ok, mm_br_b1]
  by_cases q12 : rd_is S (pp_tx 46) = true
  · rw [if_pos q12] at hw
    rw [if_pos q12, y200, if_neg (by omega)]
  rw [if_neg q12] at hw
  rw [if_neg q12, w 47 (by omega), mm_cI_ok, mm_br_b1]
  by_cases q13 : rd_is S (pp_tx 47) = true
  · rw [if_pos q13] at hw
    rw [if_pos q13, y200, if_neg (by omega)]
  rw [if_neg q13] at hw
  rw [if_neg q13, w 48 (by omega), mm_cI_ok, mm_br_b1]
  by_cases q14 : rd_is S (pp_tx 48) = true
  · rw [if_pos q14] at hw
    rw [if_pos q14, y200, if_neg (by omega)]
  rw [if_neg q14] at hw
  rw [if_neg q14, mm_e254_150, w 49 (by omega), mm_cI_ok, mm_br_b1]
  by_cases q15 : rd_is S (pp_tx 49) = true
  · rw [if_pos q15] at hw
    rw [if_pos q15, y200, if_neg (by omega)]
  rw [if_neg q15] at hw
  rw [if_neg q15, w 50 (by omega), mm_cI_ok, mm_br_b1]
  by_cases q16 : rd_is S (pp_tx 50) = true
  · rw [if_pos q16] at hw
    rw [if_pos q16, y200, if_neg (by omega)]
  rw [if_neg q16] at hw
  rw [if_neg q16, w 51 (by omega), mm_cI_ok, mm_br_b1]
  by_cases q17 : rd_is S (pp_tx 51) = true
  · rw [if_pos q17] at hw
    rw [if_pos q17, y200, if_neg (by omega)]
  rw [if_neg q17] at hw
  rw [if_neg q17, w 52 (by omega), mm_cI_ok, mm_br_b1]
  by_cases q18 : rd_is S (pp_tx 52) = true
  · rw [if_pos q18] at hw
    rw [if_pos q18, y200, if_neg (by omega)]
  rw [if_neg q18] at hw
  rw [if_neg q18, w 53 (by omega), mm_cI_ok, mm_br_b1]
  by_cases q19 : rd_is S (pp_tx 53) = true
  · rw [if_pos q19] at hw
    rw [if_pos q19, y200, if_neg (by omega)]
  rw [if_neg q19] at hw
  rw [if_neg q19, if_pos hw, mm_e254_206, mm_br_t rfl, rd_wrg h.2.1 h.2.2.1 (by omega), mm_cV_ok]
end
