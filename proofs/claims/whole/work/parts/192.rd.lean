/-! READING: class and model at one token -/
theorem rd_sk {t u : Int → Int} {n : Int} (h : ∀ i : Int, 0 ≤ i → i < n → u i = t i) : ∀ (j : Nat) (p : Int), 0 ≤ p → pp_sk u n j p = pp_sk t n j p
  | 0, _, _ => rfl
  | j + 1, p, p0 => by
    show (if p < n ∧ (u p = 32 ∨ u p = 10) then pp_sk u n j (p + 1) else p) = (if p < n ∧ (t p = 32 ∨ t p = 10) then pp_sk t n j (p + 1) else p)
    by_cases q : p < n
    · rw [h p p0 q, rd_sk h j (p + 1) (by omega)]
    · rw [if_neg (fun z => q z.1), if_neg (fun z => q z.1)]
theorem rd_ex {t u : Int → Int} {n k : Int} (h : ∀ i : Int, 0 ≤ i → i < n → u i = t i) : ∀ (j : Nat) (p : Int), 0 ≤ p → pp_ex u n k j p = pp_ex t n k j p
  | 0, _, _ => rfl
  | j + 1, p, p0 => by
    show (if p < n ∧ pp_kd (u p) = k then pp_ex u n k j (p + 1) else p) = (if p < n ∧ pp_kd (t p) = k then pp_ex t n k j (p + 1) else p)
    by_cases q : p < n
    · rw [h p p0 q, rd_ex h j (p + 1) (by omega)]
    · rw [if_neg (fun z => q z.1), if_neg (fun z => q z.1)]
theorem rd_tb {t u : Int → Int} {n p : Int} (h : ∀ i : Int, 0 ≤ i → i < n → u i = t i) (p0 : 0 ≤ p) : pp_tb u n p = pp_tb t n p := rd_sk h _ p p0
theorem rd_tk {t u : Int → Int} {n p : Int} (h : ∀ i : Int, 0 ≤ i → i < n → u i = t i) (p0 : 0 ≤ p) (p1 : p ≤ n) : pp_tk u n p = pp_tk t n p := by
  have b := pp_tb_r (t := t) p0 p1
  unfold pp_tk
  rw [rd_tb h p0]
  by_cases q : pp_tb t n p < n
  · rw [if_pos q, if_pos q, h _ (by omega) q]
  · rw [if_neg q, if_neg q]
theorem rd_te {t u : Int → Int} {n p : Int} (h : ∀ i : Int, 0 ≤ i → i < n → u i = t i) (p0 : 0 ≤ p) (p1 : p ≤ n) : pp_te u n p = pp_te t n p := by
  have b := pp_tb_r (t := t) p0 p1
  unfold pp_te
  rw [rd_tk h p0 p1, rd_tb h p0, rd_ex h _ _ (by omega)]
theorem rd_ce {t u : Int → Int} {n : Int} (h : ∀ i : Int, 0 ≤ i → i < n → u i = t i) : ∀ (w : List Int) (p : Int), 0 ≤ p → p + w.length ≤ n → pp_ce u p w = pp_ce t p w
  | [], _, _, _ => rfl
  | x :: w, p, p0, p1 => by
    have p1 : p + ((w.length + 1 : Nat) : Int) ≤ n := p1
    show (decide (u p = x) && pp_ce u (p + 1) w) = (decide (t p = x) && pp_ce t (p + 1) w)
    rw [h p p0 (by omega), rd_ce h w (p + 1) (by omega) (by omega)]
theorem rd_wd {t u : Int → Int} {n b e : Int} (h : ∀ i : Int, 0 ≤ i → i < n → u i = t i) (b0 : 0 ≤ b) (e1 : e ≤ n) (w : List Int) : pp_wd u b e w = pp_wd t b e w := by
  unfold pp_wd
  by_cases q : e - b = w.length
  · rw [rd_ce h w b b0 (by omega)]
  · rw [decide_eq_false q, Bool.false_and, Bool.false_and]
theorem rd_nm {t u : Int → Int} {n cap : Int} (h : ∀ i : Int, 0 ≤ i → i < n → u i = t i) : ∀ (j : Nat) (p v : Int), 0 ≤ p → p + j ≤ n → pp_nm u cap j p v = pp_nm t cap j p v
  | 0, _, _, _, _ => rfl
  | j + 1, p, v, p0, p1 => by
    show pp_nm u cap j (p + 1) (min (v * 10 + u p - 48) cap) = pp_nm t cap j (p + 1) (min (v * 10 + t p - 48) cap)
    rw [h p p0 (by omega), rd_nm h j (p + 1) _ (by omega) (by omega)]
/-- the model's tokens, alone -/
def rd_M (T : mm_S) : Prop := pp_KM T ∧ pp_KF (T.A 122) (T.I 101 29) (T.I 101 30) (T.I 101 31)
/-- both at one token -/
def rd_T (S T : mm_S) : Prop := pp_KT S ∧ rd_M T ∧ T.I 101 32 = 0 ∧ T.I 101 27 = S.I 1 2 ∧ (∀ i : Int, 0 ≤ i → i < S.I 1 2 → T.A 122 i = S.A 2 i) ∧ T.I 101 30 = S.I 1 3 ∧ T.I 101 31 = S.I 1 4 ∧ T.I 101 29 = S.I 1 5 ∧ (S.I 1 5 ≠ 0 → S.I 1 3 < S.I 1 4)
/-- the model has found a fault, where the class stands -/
def rd_B (S T : mm_S) (v : Int) : Prop := rd_M T ∧ T.I 101 32 = v ∧ (1 ≤ v ∧ v ≤ 5) ∧ T.I 101 33 = S.I 1 3
theorem rd_M_c {T U : mm_S} (hI : ∀ k, 27 ≤ k ∧ k ≤ 32 → U.I 101 k = T.I 101 k) (hA : U.A 122 = T.A 122) (h : rd_M T) : rd_M U := by
  unfold rd_M pp_KM at h ⊢
  rw [hI 27 (by omega), hI 28 (by omega), hI 29 (by omega), hI 30 (by omega), hI 31 (by omega), hI 32 (by omega), hA]
  exact h
theorem rd_KT_c {S U : mm_S} (hI : ∀ k, 2 ≤ k ∧ k ≤ 5 → U.I 1 k = S.I 1 k) (hA : U.A 2 = S.A 2) (h : pp_KT S) : pp_KT U := by
  unfold pp_KT at h ⊢
  rw [hI 2 (by omega), hI 3 (by omega), hI 4 (by omega), hI 5 (by omega), hA]
  exact h
theorem rd_T_c {S T U V : mm_S} (sI : ∀ k, 2 ≤ k ∧ k ≤ 5 → U.I 1 k = S.I 1 k) (sA : U.A 2 = S.A 2) (tI : ∀ k, 27 ≤ k ∧ k ≤ 32 → V.I 101 k = T.I 101 k) (tA : V.A 122 = T.A 122) (h : rd_T S T) : rd_T U V := by
  obtain ⟨h1, h2, h3, h4, h5, h6, h7, h8, h9⟩ := h
  refine ⟨rd_KT_c sI sA h1, rd_M_c tI tA h2, ?_, ?_, ?_, ?_, ?_, ?_, ?_⟩
  · rw [tI 32 (by omega)]; exact h3
  · rw [tI 27 (by omega), sI 2 (by omega)]; exact h4
  · rw [tA, sA, sI 2 (by omega)]; exact h5
  · rw [tI 30 (by omega), sI 3 (by omega)]; exact h6
  · rw [tI 31 (by omega), sI 4 (by omega)]; exact h7
  · rw [tI 29 (by omega), sI 5 (by omega)]; exact h8
  · rw [sI 5 (by omega), sI 3 (by omega), sI 4 (by omega)]; exact h9
/-- the next token -/
def rd_s (S : mm_S) : mm_S := pp_tT S (S.I 1 4)
def rd_m (T : mm_S) : mm_S := pp_tM T (T.I 101 28)
theorem rd_sI {S : mm_S} {x k : Nat} (h : ¬ (x = 1 ∧ 3 ≤ k ∧ k ≤ 5)) : (rd_s S).I x k = S.I x k := by
  unfold rd_s pp_tT
  rw [mm_gI_ne (by omega), mm_gI_ne (by omega), mm_gI_ne (by omega)]
theorem rd_sA (S : mm_S) : (rd_s S).A = S.A := rfl
theorem rd_mI {T : mm_S} {x k : Nat} (h : ¬ (x = 101 ∧ 28 ≤ k ∧ k ≤ 31)) : (rd_m T).I x k = T.I x k := by
  unfold rd_m pp_tM
  rw [mm_gI_ne (by omega), mm_gI_ne (by omega), mm_gI_ne (by omega), mm_gI_ne (by omega)]
theorem rd_mA (T : mm_S) : (rd_m T).A = T.A := rfl
theorem rd_mL (T : mm_S) : (rd_m T).L = T.L := rfl
theorem rd_next {S T : mm_S} (h : rd_T S T) : rd_T (rd_s S) (rd_m T) ∧ S.I 1 4 ≤ (rd_s S).I 1 3 := by
  obtain ⟨h1, h2, h3, h4, h5, h6, h7, h8, h9⟩ := h
  obtain ⟨k1, k2, k3, k4, k5, k6, k7, k8⟩ := h1
  have m28 : T.I 101 28 = T.I 101 31 := h2.1.2.2.2.2.2.2.2.2.1
  have m28 : T.I 101 28 = S.I 1 4 := by rw [m28, h7]
  have hM := pp_KM_t (S := T) (p := T.I 101 28) h2.1.1 h2.1.2.1 (by omega) (by omega) h2.1.2.2.2.2.2.2.2.2.2
  have s3 : (rd_s S).I 1 3 = pp_tb (S.A 2) (S.I 1 2) (S.I 1 4) := by unfold rd_s pp_tT; simp (disch := omega) only [mm_gs, pp_ne]
  have s4 : (rd_s S).I 1 4 = pp_te (S.A 2) (S.I 1 2) (S.I 1 4) := by unfold rd_s pp_tT; simp (disch := omega) only [mm_gs, pp_ne]
  have s5 : (rd_s S).I 1 5 = pp_tk (S.A 2) (S.I 1 2) (S.I 1 4) := by unfold rd_s pp_tT; simp (disch := omega) only [mm_gs, pp_ne]
  have m30 : (rd_m T).I 101 30 = pp_tb (T.A 122) (T.I 101 27) (T.I 101 28) := by unfold rd_m pp_tM; simp (disch := omega) only [mm_gs, pp_ne]
  have m31 : (rd_m T).I 101 31 = pp_te (T.A 122) (T.I 101 27) (T.I 101 28) := by unfold rd_m pp_tM; simp (disch := omega) only [mm_gs, pp_ne]
  have m29 : (rd_m T).I 101 29 = pp_tk (T.A 122) (T.I 101 27) (T.I 101 28) := by unfold rd_m pp_tM; simp (disch := omega) only [mm_gs, pp_ne]
  have b := pp_tb_r (t := S.A 2) (n := S.I 1 2) (p := S.I 1 4) (by omega) (by omega)
  have e := pp_te_r (t := S.A 2) (n := S.I 1 2) (p := S.I 1 4) (by omega) (by omega)
  refine ⟨⟨pp_KT_t k1 k2 (by omega) (by omega), ⟨hM, ?_⟩, ?_, ?_, ?_, ?_, ?_, ?_, ?_⟩, by rw [s3]; exact b.1⟩
  · show pp_KF (T.A 122) ((rd_m T).I 101 29) ((rd_m T).I 101 30) ((rd_m T).I 101 31)
    rw [m29, m30, m31]
    exact pp_KF_t
  · rw [rd_mI (by omega)]; exact h3
  · rw [rd_mI (by omega), rd_sI (by omega)]; exact h4
  · rw [rd_mA, rd_sA, rd_sI (by omega)]; exact h5
  · rw [m30, s3, h4, m28, rd_tb h5 (by omega)]
  · rw [m31, s4, h4, m28, rd_te h5 (by omega) (by omega)]
  · rw [m29, s5, h4, m28, rd_tk h5 (by omega) (by omega)]
  · rw [s5, s3, s4]
    intro z
    exact e.2.2 (pp_tk3 z)
/-- a fault told by the model -/
def rd_w (T : mm_S) (v : Int) : mm_S := (T.sI 101 32 v).sI 101 33 (T.I 101 30)
theorem rd_wB {S T : mm_S} {v : Int} (h : rd_T S T) (h0 : 1 ≤ v) (h1 : v ≤ 5) : rd_B S (rd_w T v) v := by
  refine ⟨⟨pp_KM_w h.2.1.1 (by omega) h1, h.2.1.2⟩, ?_, ⟨h0, h1⟩, ?_⟩
  · unfold rd_w; rw [mm_gI_ne (by omega)]; exact mm_gs.1 _ _ _ _
  · unfold rd_w; rw [mm_gs.1]; exact h.2.2.2.2.2.1
theorem rd_wI {T : mm_S} {v : Int} {x k : Nat} (h : ¬ (x = 101 ∧ 32 ≤ k ∧ k ≤ 33)) : (rd_w T v).I x k = T.I x k := by
  unfold rd_w
  rw [mm_gI_ne (by omega), mm_gI_ne (by omega)]
/-- the word, the sign at hand -/
def rd_is (S : mm_S) (w : List Int) : Bool := decide (S.I 1 5 = 1) && pp_wd (S.A 2) (S.I 1 3) (S.I 1 4) w
def rd_sg (S : mm_S) (x : Int) : Bool := decide (S.I 1 5 = 3) && decide (S.A 2 (S.I 1 3) = x)
section
variable {E : mm_E} {d B : Nat} {S T : mm_S} {c : mm_N}
theorem rd_isW (hE : pp_OE E B) (h : rd_T S T) (hd : 1 ≤ d) {i : Nat} (hi : i < 56) : mm_ev E d 235 [.ref (mm_ad B 101), .ref (E.2.2.1 i)] (mm_hp B T c) = mm_oI (mm_b1 (rd_is S (pp_tx i))) (mm_hp B T c) := by
  obtain ⟨h1, h2, h3, h4, h5, h6, h7, h8, h9⟩ := h
  obtain ⟨k1, k2, k3, k4, k5, k6, k7, k8, k9, k10, k11⟩ := h2.1
  rw [m_isWord hE hd hi k1 k2 k3 k4 k5 ⟨k10, k11⟩ ⟨k6, k7⟩, decide_eq_true h3, Bool.true_and, h6, h7, h8, rd_wd h5 (by omega) (by omega)]
  rfl
theorem rd_isWb (hE : pp_OE E B) (h : rd_M T) (hb : T.I 101 32 ≠ 0) (hd : 1 ≤ d) {i : Nat} (hi : i < 56) : mm_ev E d 235 [.ref (mm_ad B 101), .ref (E.2.2.1 i)] (mm_hp B T c) = mm_oI 0 (mm_hp B T c) := by
  obtain ⟨k1, k2, k3, k4, k5, k6, k7, k8, k9, k10, k11⟩ := h.1
  rw [m_isWord hE hd hi k1 k2 k3 k4 k5 ⟨k10, k11⟩ ⟨k6, k7⟩, decide_eq_false hb, Bool.false_and]
  rfl
theorem rd_isS (h : pp_KT S) (hd : 1 ≤ d) {x : Int} (hx : 0 ≤ x ∧ x ≤ 255) : mm_ev E d 96 [.ref (mm_ad B 1), .int (mm_i x)] (mm_hp B S c) = mm_oI (mm_b1 (rd_sg S x)) (mm_hp B S c) := by
  obtain ⟨k1, k2, k3, k4, k5, k6, k7, k8⟩ := h
  exact c_isSign hd k1 k2 k3 k8 ⟨k6, k7⟩ hx
theorem rd_isSM (h : rd_T S T) (hd : 1 ≤ d) {x : Int} (hx : 0 ≤ x ∧ x ≤ 255) : mm_ev E d 234 [.ref (mm_ad B 101), .int (mm_i x)] (mm_hp B T c) = mm_oI (mm_b1 (rd_sg S x)) (mm_hp B T c) := by
  obtain ⟨h1, h2, h3, h4, h5, h6, h7, h8, h9⟩ := h
  obtain ⟨k1, k2, k3, k4, k5, k6, k7, k8, k9, k10, k11⟩ := h2.1
  rw [m_isSign hd k1 k2 k3 k8 ⟨k10, k11⟩ ⟨k6, k7⟩ hx, decide_eq_true h3, Bool.true_and, h6, h8]
  unfold rd_sg
  by_cases q : S.I 1 5 = 3
  · rw [h5 _ (by omega) (by omega)]
  · rw [decide_eq_false q, Bool.false_and, Bool.false_and]
theorem rd_isSMb (h : rd_M T) (hb : T.I 101 32 ≠ 0) (hd : 1 ≤ d) {x : Int} (hx : 0 ≤ x ∧ x ≤ 255) : mm_ev E d 234 [.ref (mm_ad B 101), .int (mm_i x)] (mm_hp B T c) = mm_oI 0 (mm_hp B T c) := by
  obtain ⟨k1, k2, k3, k4, k5, k6, k7, k8, k9, k10, k11⟩ := h.1
  rw [m_isSign hd k1 k2 k3 k8 ⟨k10, k11⟩ ⟨k6, k7⟩ hx, decide_eq_false hb, Bool.false_and]
  rfl
theorem rd_adv (h : pp_KT S) (hd : 2 ≤ d) : mm_ev E d 95 [.ref (mm_ad B 1)] (mm_hp B S c) = mm_oV (mm_hp B (rd_s S) c) := c_adv hd h
theorem rd_pas (h : rd_M T) (h0 : T.I 101 32 = 0) (hd : 3 ≤ d) : mm_ev E d 236 [.ref (mm_ad B 101)] (mm_hp B T c) = mm_oV (mm_hp B (rd_m T) c) := by
  rw [m_pass hd h.1, if_pos h0]
  rfl
theorem rd_pasb (h : rd_M T) (h0 : T.I 101 32 ≠ 0) (hd : 3 ≤ d) : mm_ev E d 236 [.ref (mm_ad B 101)] (mm_hp B T c) = mm_oV (mm_hp B T c) := by
  rw [m_pass hd h.1, if_neg h0]
theorem rd_wrg (h : rd_M T) (h0 : T.I 101 32 = 0) (hd : 1 ≤ d) (v : Int) : mm_ev E d 233 [.ref (mm_ad B 101), .int (mm_i v)] (mm_hp B T c) = mm_oV (mm_hp B (rd_w T v) c) := by
  obtain ⟨k1, k2, k3, k4, k5, k6, k7, k8, k9, k10, k11⟩ := h.1
  rw [m_wrong hd ⟨k10, k11⟩, if_pos h0]
  rfl
theorem rd_wrgb (h : rd_M T) (h0 : T.I 101 32 ≠ 0) (hd : 1 ≤ d) (v : Int) : mm_ev E d 233 [.ref (mm_ad B 101), .int (mm_i v)] (mm_hp B T c) = mm_oV (mm_hp B T c) := by
  obtain ⟨k1, k2, k3, k4, k5, k6, k7, k8, k9, k10, k11⟩ := h.1
  rw [m_wrong hd ⟨k10, k11⟩, if_neg h0]
theorem rd_must (h : rd_T S T) (hd : 4 ≤ d) {x : Int} (hx : 0 ≤ x ∧ x ≤ 255) : mm_ev E d 237 [.ref (mm_ad B 101), .int (mm_i x)] (mm_hp B T c) = mm_oV (mm_hp B (if rd_sg S x = true then rd_m T else rd_w T 1) c) := by
  obtain ⟨h1, h2, h3, h4, h5, h6, h7, h8, h9⟩ := h
  obtain ⟨k1, k2, k3, k4, k5, k6, k7, k8, k9, k10, k11⟩ := h2.1
  rw [m_must hd h2.1 hx, if_pos h3, h6, h8]
  have z : (decide (S.I 1 5 = 3) && decide (T.A 122 (S.I 1 3) = x)) = rd_sg S x := by
    unfold rd_sg
    by_cases q : S.I 1 5 = 3
    · rw [h5 _ (by omega) (by omega)]
    · rw [decide_eq_false q, Bool.false_and, Bool.false_and]
  rw [z, ← h6]
  rfl
theorem rd_mustb (h : rd_M T) (h0 : T.I 101 32 ≠ 0) (hd : 4 ≤ d) {x : Int} (hx : 0 ≤ x ∧ x ≤ 255) : mm_ev E d 237 [.ref (mm_ad B 101), .int (mm_i x)] (mm_hp B T c) = mm_oV (mm_hp B T c) := by
  rw [m_must hd h.1 hx, if_neg h0]
/-- a number at hand -/
theorem rd_num (h : rd_T S T) (hk : S.I 1 5 = 2) : ∃ N : Int, (0 ≤ N ∧ N ≤ 1000000) ∧ (∀ (d : Nat) (c : mm_N), 1 ≤ d → mm_ev E d 99 [.ref (mm_ad B 1)] (mm_hp B S c) = mm_oI N (mm_hp B S c)) ∧ ∀ (d : Nat) (c : mm_N) (x : Int), 4 ≤ d → 0 ≤ x → x ≤ 9999 → mm_ev E d 239 [.ref (mm_ad B 101), .int (mm_i x)] (mm_hp B T c) = mm_oI (min N 10000) (mm_hp B (if N ≤ x then rd_m T else rd_w T 2) c) := by
  obtain ⟨h1, h2, h3, h4, h5, h6, h7, h8, h9⟩ := h
  obtain ⟨k1, k2, k3, k4, k5, k6, k7, k8⟩ := h1
  have hf : ∀ i : Int, T.I 101 30 ≤ i → i < T.I 101 31 → 48 ≤ T.A 122 i ∧ T.A 122 i ≤ 57 := h2.2 (by rw [h8]; exact hk)
  have hf2 : ∀ i : Int, S.I 1 3 ≤ i → i < S.I 1 4 → 48 ≤ S.A 2 i ∧ S.A 2 i ≤ 57 := fun i i0 i1 => by
    rw [← h5 i (by omega) (by omega)]
    exact hf i (by omega) (by omega)
  have r := pp_nm_q (t := S.A 2) (cap := 1000000) (by omega) hf2 (S.I 1 4 - S.I 1 3).toNat (S.I 1 3) 0 (by omega) (by omega) (by omega) (by omega)
  refine ⟨pp_nm (S.A 2) 1000000 (S.I 1 4 - S.I 1 3).toNat (S.I 1 3) 0, r, fun d c hd => c_number hd (by omega) k3 k4 hf2, fun d c x hd x0 x1 => ?_⟩
  have e : pp_nm (T.A 122) 10000 (T.I 101 31 - T.I 101 30).toNat (T.I 101 30) 0 = min (pp_nm (S.A 2) 1000000 (S.I 1 4 - S.I 1 3).toNat (S.I 1 3) 0) 10000 := by
    rw [h6, h7, rd_nm h5 _ _ _ (by omega) (by omega)]
    exact pp_nm_c2 hf2 _ _ _ _ (by omega) (by omega) (by omega) (by omega)
  have m := m_readNumber (E := E) (d := d) (B := B) (S := T) (c := c) (x := x) hd h2.1 h2.2 ⟨x0, by omega⟩
  rw [if_pos h3, if_pos (by rw [h8]; exact hk), e] at m
  generalize pp_nm (S.A 2) 1000000 (S.I 1 4 - S.I 1 3).toNat (S.I 1 3) 0 = N at m r
  rw [m]
  by_cases q : N ≤ x
  · rw [if_pos (by omega), if_pos q]
    rfl
  · rw [if_neg (by omega), if_neg q]
    rfl
end
