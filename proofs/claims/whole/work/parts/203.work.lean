/-! ASK: marks worked out on the stack -/
/-- two values joined -/
noncomputable def aq_j (op : Int) (x y : Int32) : Int32 := if op = 30 then x * y else if op = 31 then x + y else if op = 32 then x - y else if op = 33 then (@ite _ (y ≤ x) (Classical.propDecidable _) (mm_i 0) (mm_i 1)) else if op = 34 then (@ite _ (x = y) (Classical.propDecidable _) (mm_i 1) (mm_i 0)) else if op = 35 then (@ite _ (x ≤ y) (Classical.propDecidable _) (mm_i 0) (mm_i 1)) else if op = 37 then x &&& y else x ||| y
def aq_op (op : Int) : Prop := op = 30 ∨ op = 31 ∨ op = 32 ∨ op = 33 ∨ op = 34 ∨ op = 35 ∨ op = 37 ∨ op = 38
section
variable {E : mm_E} {d B : Nat} {S : mm_S} {c : mm_N}
theorem aq_br {p : Prop} {u v : Int32} {h : mm_H} : mm_br p (some (.inl (some (.int u)), h)) (some (.inl (some (.int v)), h)) = some (.inl (some (.int (@ite _ p (Classical.propDecidable p) u v))), h) := by
  by_cases q : p
  · rw [mm_br_t q, if_pos q]
  · rw [mm_br_f q, if_neg q]
theorem c_joined (hd : 1 ≤ d) {op : Int} (ho : aq_op op) (x y : Int32) : mm_ev E d 73 [.int (mm_i op), .int x, .int y] (mm_hp B S c) = some (.inl (some (.int (aq_j op x y))), mm_hp B S c) := by
  refine mm_v73 (by omega) (fun F e hF he => ?_)
  unfold aq_op at ho
  rw [mm_e73_0, aq_br, aq_br, aq_br]
  rw [mm_br_eq (by omega) (by omega) (by omega) (by omega), mm_br_eq (by omega) (by omega) (by omega) (by omega), mm_br_eq (by omega) (by omega) (by omega) (by omega), mm_br_eq (by omega) (by omega) (by omega) (by omega), mm_br_eq (by omega) (by omega) (by omega) (by omega), mm_br_eq (by omega) (by omega) (by omega) (by omega), mm_br_eq (by omega) (by omega) (by omega) (by omega), mm_br_eq (by omega) (by omega) (by omega) (by omega)]
  unfold aq_j
  rcases ho with r | r | r | r | r | r | r | r
  · rw [if_pos r, if_pos r]
  · rw [if_neg (show ¬ op = 30 by omega), if_neg (show ¬ op = 30 by omega), if_pos r, if_pos r]
  · rw [if_neg (show ¬ op = 30 by omega), if_neg (show ¬ op = 30 by omega), if_neg (show ¬ op = 31 by omega), if_neg (show ¬ op = 31 by omega), if_pos r, if_pos r]
  · rw [if_neg (show ¬ op = 30 by omega), if_neg (show ¬ op = 30 by omega), if_neg (show ¬ op = 31 by omega), if_neg (show ¬ op = 31 by omega), if_neg (show ¬ op = 32 by omega), if_neg (show ¬ op = 32 by omega), if_pos r, if_pos r]
  · rw [if_neg (show ¬ op = 30 by omega), if_neg (show ¬ op = 30 by omega), if_neg (show ¬ op = 31 by omega), if_neg (show ¬ op = 31 by omega), if_neg (show ¬ op = 32 by omega), if_neg (show ¬ op = 32 by omega), if_neg (show ¬ op = 33 by omega), if_neg (show ¬ op = 33 by omega), if_pos r, if_pos r]
  · rw [if_neg (show ¬ op = 30 by omega), if_neg (show ¬ op = 30 by omega), if_neg (show ¬ op = 31 by omega), if_neg (show ¬ op = 31 by omega), if_neg (show ¬ op = 32 by omega), if_neg (show ¬ op = 32 by omega), if_neg (show ¬ op = 33 by omega), if_neg (show ¬ op = 33 by omega), if_neg (show ¬ op = 34 by omega), if_neg (show ¬ op = 34 by omega), if_pos r, if_pos r]
  · rw [if_neg (show ¬ op = 30 by omega), if_neg (show ¬ op = 30 by omega), if_neg (show ¬ op = 31 by omega), if_neg (show ¬ op = 31 by omega), if_neg (show ¬ op = 32 by omega), if_neg (show ¬ op = 32 by omega), if_neg (show ¬ op = 33 by omega), if_neg (show ¬ op = 33 by omega), if_neg (show ¬ op = 34 by omega), if_neg (show ¬ op = 34 by omega), if_neg (show ¬ op = 35 by omega), if_neg (show ¬ op = 35 by omega), if_neg (show ¬ op = 36 by omega), if_pos r, if_pos r]
  · rw [if_neg (show ¬ op = 30 by omega), if_neg (show ¬ op = 30 by omega), if_neg (show ¬ op = 31 by omega), if_neg (show ¬ op = 31 by omega), if_neg (show ¬ op = 32 by omega), if_neg (show ¬ op = 32 by omega), if_neg (show ¬ op = 33 by omega), if_neg (show ¬ op = 33 by omega), if_neg (show ¬ op = 34 by omega), if_neg (show ¬ op = 34 by omega), if_neg (show ¬ op = 35 by omega), if_neg (show ¬ op = 35 by omega), if_neg (show ¬ op = 36 by omega), if_neg (show ¬ op = 37 by omega), if_neg (show ¬ op = 37 by omega)]
end
/-- a state in which the words have these values for stage s -/
def aq_ok (E : mm_E) (B : Nat) (s : Int) (W : Int → Int) (S : mm_S) : Prop := ∀ (st : Int → Int) (d : Nat) (c : mm_N) (m : Int), 18 ≤ d → 0 ≤ m → m < 19 → mm_ev E d 74 [.ref (mm_ad B 97), .int (mm_i s), .int (mm_i m)] (mm_hp B (S.sA 99 st) c) = mm_oI (W m) (mm_hp B (S.sA 99 st) c)
/-- marks a to b, worked out from top t at most t1 on, leave v -/
def aq_C (E : mm_E) (B : Nat) (s : Int) (W : Int → Int) (mk : Int → Int) (a b : Int) (v : Int32) (t1 : Int) : Prop := 0 ≤ a ∧ a ≤ b ∧ ∀ (S : mm_S) (e : Nat) (c : mm_N) (t : Int) (n : Nat) (o : Option Value), aq_ok E B s W S → (∀ i : Int, a ≤ i → i < b → S.A 98 i = mk i) → b ≤ S.I 97 4 → S.I 97 4 ≤ 200 → 0 ≤ t → t ≤ t1 → 3 * (b - a) < n → 18 ≤ e → ∃ m st o', n ≤ m + 3 * (b - a).toNat ∧ (∀ j : Int, j < t → st j = S.A 99 j) ∧ mm_i (st t) = v ∧ mm_r72_4 E (mm_ev E e) n (mm_ad B 97) (mm_i s) (mm_i t) (mm_i a) o (mm_hp B S c) = mm_r72_4 E (mm_ev E e) m (mm_ad B 97) (mm_i s) (mm_i (t + 1)) (mm_i b) o' (mm_hp B (S.sA 99 st) c)
theorem aq_ok_st {E : mm_E} {B : Nat} {s : Int} {W : Int → Int} {S : mm_S} (h : aq_ok E B s W S) (f : Int → Int) : aq_ok E B s W (S.sA 99 f) := fun st d c m h1 h2 h3 => by
  have e : (S.sA 99 f).sA 99 st = S.sA 99 st := by simp only [mm_gs]
  rw [e]
  exact h st d c m h1 h2 h3
section
variable {E : mm_E} {B : Nat} {s : Int} {W mk : Int → Int} {a b : Int}
theorem aq_C_c {mk' : Int → Int} {v : Int32} {t1 : Int} (h : aq_C E B s W mk a b v t1) (hm : ∀ i : Int, a ≤ i → i < b → mk' i = mk i) : aq_C E B s W mk' a b v t1 := by
  refine ⟨h.1, h.2.1, fun S e c t n o h1 h2 => h.2.2 S e c t n o h1 (fun i i0 i1 => ?_)⟩
  rw [h2 i i0 i1, hm i i0 i1]
theorem aq_C_t {v : Int32} {t1 t2 : Int} (h : aq_C E B s W mk a b v t1) (ht : t2 ≤ t1) : aq_C E B s W mk a b v t2 := ⟨h.1, h.2.1, fun S e c t n o h1 h2 h3 h4 h5 h6 => h.2.2 S e c t n o h1 h2 h3 h4 h5 (by omega)⟩
/-- a number -/
theorem aq_C_n {N t1 : Int} (a0 : 0 ≤ a) (ht : t1 ≤ 63) (N0 : 0 ≤ N ∧ N ≤ 9999) (hm : mk a = 100 + N) : aq_C E B s W mk a (a + 1) (mm_i N) t1 := by
  refine ⟨a0, by omega, fun S e c t n o h1 h2 h3 h4 h5 h6 h7 h8 => ?_⟩
  obtain ⟨n, rfl⟩ : ∃ q, n = q + 3 := ⟨n - 3, by omega⟩
  have hx := h2 a (by omega) (by omega)
  refine ⟨n, mm_u (S.A 99) t N, some (.int (mm_i (100 + N))), by omega, fun j hj => mm_u_ne (by omega), by rw [mm_u_eq], ?_⟩
  rw [mm_e72_4]
  simp (disch := omega) only [mm_ptQ, mm_br_le]
  rw [if_neg (by omega), hx, hm, mm_br_eq (by omega) (by omega) (by omega) (by omega), if_neg (by omega), mm_e72_52, mm_br_lt (by omega) (by omega) (by omega) (by omega), if_neg (by omega), mm_br_le (by omega) (by omega) (by omega) (by omega), if_pos (by omega), mm_e72_104]
  simp (disch := omega) only [mm_ptQ, mm_br_le, mm_br_lt]
  rw [if_neg (by omega), if_neg (by omega)]
  simp (disch := omega) only [mm_hm]
  simp (disch := omega) only [mm_ptQ, mm_hm]
  rw [show 100 + N - 100 = N by omega]
/-- a word -/
theorem aq_C_w {w t1 : Int} (a0 : 0 ≤ a) (ht : t1 ≤ 63) (w0 : 0 ≤ w ∧ w < 19) (hm : mk a = w) : aq_C E B s W mk a (a + 1) (mm_i (W w)) t1 := by
  refine ⟨a0, by omega, fun S e c t n o h1 h2 h3 h4 h5 h6 h7 h8 => ?_⟩
  obtain ⟨n, rfl⟩ : ∃ q, n = q + 3 := ⟨n - 3, by omega⟩
  have hx := h2 a (by omega) (by omega)
  have hv := h1 (S.A 99) e c w h8 w0.1 w0.2
  rw [pp_sA_id] at hv
  refine ⟨n, mm_u (S.A 99) t (W w), some (.int (mm_i w)), by omega, fun j hj => mm_u_ne (by omega), by rw [mm_u_eq], ?_⟩
  rw [mm_e72_4]
  simp (disch := omega) only [mm_ptQ, mm_br_le]
  rw [if_neg (by omega), hx, hm, mm_br_eq (by omega) (by omega) (by omega) (by omega), if_neg (by omega), mm_e72_52, mm_br_lt (by omega) (by omega) (by omega) (by omega), if_pos (by omega), mm_e72_104]
  simp (disch := omega) only [mm_ptQ, mm_br_le, mm_br_lt]
  rw [if_neg (by omega), if_pos (by omega), hv, mm_cI_ok]
  simp (disch := omega) only [mm_ptQ, mm_hm]
/-- two, joined -/
theorem aq_C_j {c' op t1 : Int} {u v : Int32} (h1 : aq_C E B s W mk a b u t1) (h2 : aq_C E B s W mk b c' v (t1 + 1)) (ho : aq_op op) (hm : mk c' = op) (ht : t1 ≤ 62) : aq_C E B s W mk a (c' + 1) (aq_j op u v) t1 := by
  obtain ⟨a0, a1, h1⟩ := h1
  obtain ⟨b0, b1, h2⟩ := h2
  refine ⟨a0, by omega, fun S e c t n o g1 g2 g3 g4 g5 g6 g7 g8 => ?_⟩
  obtain ⟨m1, st1, o1, x1, x2, x3, x4⟩ := h1 S e c t n o g1 (fun i i0 i1 => g2 i i0 (by omega)) (by omega) g4 g5 g6 (by omega) g8
  obtain ⟨m2, st2, o2, y1, y2, y3, y4⟩ := h2 (S.sA 99 st1) e c (t + 1) m1 o1 (aq_ok_st g1 st1) (fun i i0 i1 => g2 i (by omega) (by omega)) (show c' ≤ S.I 97 4 by omega) g4 (by omega) (by omega) (by omega) g8
  have e2 : (S.sA 99 st1).sA 99 st2 = S.sA 99 st2 := by simp only [mm_gs]
  rw [e2] at y4
  obtain ⟨m, rfl⟩ : ∃ q, m2 = q + 2 := ⟨m2 - 2, by omega⟩
  have hx : (S.sA 99 st2).A 98 c' = op := by
    show S.A 98 c' = op
    rw [g2 c' (by omega) (by omega), hm]
  have hop : 30 ≤ op ∧ op < 100 ∧ op ≠ 36 := by unfold aq_op at ho; omega
  have z1 : mm_i (st2 t) = u := by rw [y2 t (by omega)]; exact x3
  refine ⟨m, mm_u st2 t (aq_j op u v).toInt, some (.int (mm_i op)), by omega, fun j hj => ?_, by rw [mm_u_eq, mm_i_of], ?_⟩
  · rw [mm_u_ne (by omega), y2 j (by omega)]
    exact x2 j hj
  · rw [x4, y4, mm_e72_4]
    have s4 : (S.sA 99 st2).I 97 4 = S.I 97 4 := rfl
    simp (disch := omega) only [mm_ptQ]
    rw [s4, hx, mm_br_le (by omega) (by omega) (by omega) (by omega), if_neg (by omega), mm_br_eq (by omega) (by omega) (by omega) (by omega), if_neg (by omega), mm_e72_52, mm_br_lt (by omega) (by omega) (by omega) (by omega), if_neg (by omega), mm_br_le (by omega) (by omega) (by omega) (by omega), if_neg (by omega), mm_br_le (by omega) (by omega) (by omega) (by omega), if_neg (by omega)]
    simp (disch := omega) only [mm_hm]
    rw [show t + 1 + 1 + -1 - 1 = t by omega, show t + 1 + 1 + -1 = t + 1 by omega]
    simp (disch := omega) only [mm_ptQ, mm_gs]
    rw [z1, y3, c_joined (by omega) ho, mm_cI_ok, ← mm_i_of (aq_j op u v)]
    simp (disch := omega) only [mm_ptQ, mm_gs, mm_hm]
    rw [mm_i_of]
/-- not -/
theorem aq_C_not {t1 : Int} {u : Int32} (h1 : aq_C E B s W mk a b u t1) (hm : mk b = 36) (ht : t1 ≤ 62) : aq_C E B s W mk a (b + 1) (mm_i 1 - u) t1 := by
  obtain ⟨a0, a1, h1⟩ := h1
  refine ⟨a0, by omega, fun S e c t n o g1 g2 g3 g4 g5 g6 g7 g8 => ?_⟩
  obtain ⟨m1, st1, o1, x1, x2, x3, x4⟩ := h1 S e c t n o g1 (fun i i0 i1 => g2 i i0 (by omega)) (by omega) g4 g5 g6 (by omega) g8
  obtain ⟨m, rfl⟩ : ∃ q, m1 = q + 2 := ⟨m1 - 2, by omega⟩
  have hx : (S.sA 99 st1).A 98 b = 36 := by
    show S.A 98 b = 36
    rw [g2 b (by omega) (by omega), hm]
  refine ⟨m, mm_u st1 t (1 - st1 t), some (.int (mm_i 36)), by omega, fun j hj => ?_, ?_, ?_⟩
  · rw [mm_u_ne (by omega)]
    exact x2 j hj
  · rw [mm_u_eq, ← mm_hm.2.1, x3]
  · rw [x4, mm_e72_4]
    have s4 : (S.sA 99 st1).I 97 4 = S.I 97 4 := rfl
    simp (disch := omega) only [mm_ptQ]
    rw [s4, hx, mm_br_le (by omega) (by omega) (by omega) (by omega), if_neg (by omega), mm_br_t rfl, mm_br_le (by omega) (by omega) (by omega) (by omega), if_neg (by omega), mm_e72_31]
    simp (disch := omega) only [mm_hm]
    rw [show t + 1 - 1 = t by omega]
    simp (disch := omega) only [mm_ptQ, mm_gs, mm_hm]
end
