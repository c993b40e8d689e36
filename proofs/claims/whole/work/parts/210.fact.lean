/-! ASK: a fact -/
/-- how a reading of a test ends -/
def aq_t (E : mm_E) (B : Nat) (c c' : mm_N) (k s p : Int) (W : Int → Int) (t1 : Int) (S T : mm_S) (C M : mm_R) : Prop := ∃ (S' T' : mm_S) (v : Int32), aq_FS S S' ∧ aq_FT T T' ∧ M = some (.inl (some (.int v)), mm_hp B T' c') ∧ (v = mm_i 0 ∨ v = mm_i 1) ∧ ((C = mm_oI 1 (mm_hp B S' c) ∧ aq_G S' T' k s p ∧ S'.I 97 4 - S.I 97 4 ≤ S'.I 1 3 - S.I 1 3 ∧ S.I 1 3 < S'.I 1 3 ∧ (k = 1 → aq_C E B s W (S'.A 98) (S.I 97 4) (S'.I 97 4) v t1)) ∨ (C = mm_oI 0 (mm_hp B S' c) ∧ aq_X S' T'))
theorem aq_bz {v : Int32} (h : v = mm_i 0 ∨ v = mm_i 1) (r : mm_R) : mm_bz v r = r := by
  rcases h with h | h
  · rw [h, mm_bz0]
  · rw [h, mm_bz1]
theorem aq_j01 {op : Int} {v w : Int32} (h : op = 33 ∨ op = 34 ∨ op = 35) : aq_j op v w = mm_i 0 ∨ aq_j op v w = mm_i 1 := by
  unfold aq_j
  rcases h with r | r | r
  · rw [if_neg (show ¬ op = 30 by omega), if_neg (show ¬ op = 31 by omega), if_neg (show ¬ op = 32 by omega), if_pos r]
    by_cases q : w ≤ v
    · rw [if_pos q]; exact Or.inl rfl
    · rw [if_neg q]; exact Or.inr rfl
  · rw [if_neg (show ¬ op = 30 by omega), if_neg (show ¬ op = 31 by omega), if_neg (show ¬ op = 32 by omega), if_neg (show ¬ op = 33 by omega), if_pos r]
    by_cases q : v = w
    · rw [if_pos q]; exact Or.inr rfl
    · rw [if_neg q]; exact Or.inl rfl
  · rw [if_neg (show ¬ op = 30 by omega), if_neg (show ¬ op = 31 by omega), if_neg (show ¬ op = 32 by omega), if_neg (show ¬ op = 33 by omega), if_neg (show ¬ op = 34 by omega), if_pos r]
    by_cases q : v ≤ w
    · rw [if_pos q]; exact Or.inl rfl
    · rw [if_neg q]; exact Or.inr rfl
section
variable {E : mm_E} {d e B : Nat} {S T : mm_S} {c c' : mm_N} {k s p : Int} {W : Int → Int} {T0 : mm_S}
theorem c_amongN (hE : pp_OE E B) (h : pp_KT S) (hd : 1 ≤ d) : mm_ev E d 98 [.ref (mm_ad B 1), .ref (E.2.2.1 19)] (mm_hp B S c) = mm_oI (if rd_is S (pp_tx 36) = true then 0 else -1) (mm_hp B S c) := by
  obtain ⟨k1, k2, k3, k4, k5, k6, k7, k8⟩ := h
  rw [c_among hE hd (by omega) k1 k2 k3 k4 k5 ⟨k6, k7⟩]
  by_cases q : S.I 1 5 = 1
  · have z := aq_am q [36] 0 (fun x hx => aq_t32 x (by revert hx; revert x; decide) (by revert hx; revert x; decide))
    rw [if_pos q, aq_tx19.1]
    exact congrArg (fun x => mm_oI x (mm_hp B S c)) z
  · rw [if_neg q, if_neg (by unfold rd_is; rw [decide_eq_false q, Bool.false_and]; decide)]
/-- the model compares two sums -/
theorem m_cmp {op b : Int} {v w : Int32} {H : mm_H} (h : (op = 33 ∧ b = -1) ∨ (op = 34 ∧ b = 0) ∨ (op = 35 ∧ 1 ≤ b ∧ b ≤ 2)) : mm_br ((mm_i 0) ≤ mm_i b) (mm_br (mm_i b = (mm_i 0)) (mm_br (v = w) (mm_bz (mm_i 1) (some (.inl (some (.int (mm_i 1))), H))) (mm_bz (mm_i 0) (some (.inl (some (.int (mm_i 0))), H)))) (mm_br (v ≤ w) (mm_bz (mm_i 0) (some (.inl (some (.int (mm_i 0))), H))) (mm_bz (mm_i 1) (some (.inl (some (.int (mm_i 1))), H))))) (mm_br (w ≤ v) (mm_bz (mm_i 0) (some (.inl (some (.int (mm_i 0))), H))) (mm_bz (mm_i 1) (some (.inl (some (.int (mm_i 1))), H)))) = some (.inl (some (.int (aq_j op v w))), H) := by
  rw [mm_bz0, mm_bz1, mm_br_le (by omega) (by omega) (by omega) (by omega), mm_br_eq (by omega) (by omega) (by omega) (by omega), aq_br, aq_br, aq_br]
  unfold aq_j
  rcases h with ⟨r, r2⟩ | ⟨r, r2⟩ | ⟨r, r2⟩
  · rw [if_neg (show ¬ op = 30 by omega), if_neg (show ¬ op = 31 by omega), if_neg (show ¬ op = 32 by omega), if_pos r, if_neg (show ¬ 0 ≤ b by omega)]
  · rw [if_neg (show ¬ op = 30 by omega), if_neg (show ¬ op = 31 by omega), if_neg (show ¬ op = 32 by omega), if_neg (show ¬ op = 33 by omega), if_pos r, if_pos (show 0 ≤ b by omega), if_pos r2]
  · rw [if_neg (show ¬ op = 30 by omega), if_neg (show ¬ op = 31 by omega), if_neg (show ¬ op = 32 by omega), if_neg (show ¬ op = 33 by omega), if_neg (show ¬ op = 34 by omega), if_pos r, if_pos (show 0 ≤ b by omega), if_neg (show ¬ b = 0 by omega)]
theorem m_257x {n : Nat} {v : Int32} {o : Option Value} (h : rd_M T) (hb : T.I 101 32 ≠ 0) (hd : 3 ≤ e) : mm_r257_131 E (mm_ev E e) (n + 1) (mm_ad B 101) v (mm_i 2) o (mm_hp B T c) = some (.inl (some (.int (aq_j 35 v (mm_i 0)))), mm_hp B T c) := by
  rw [mm_e257_131, rd_pasb h hb (by omega), mm_cV_ok, m_256b h hb (by omega), mm_cI_ok]
  exact m_cmp (Or.inr (Or.inr ⟨rfl, by omega, by omega⟩))
theorem m_257y {n : Nat} {v : Int32} {o1 o2 : Option Value} (h : rd_M T) (hb : T.I 101 32 ≠ 0) (hd : 3 ≤ e) : mm_r257_106 E (mm_ev E e) (n + 3) (mm_ad B 101) v o1 o2 (mm_hp B T c) = some (.inl (some (.int (aq_j 35 v (mm_i 0)))), mm_hp B T c) := by
  rw [mm_e257_106, rd_isSMb h hb (by omega) (by omega), mm_cI_ok, mm_br_t rfl, mm_e257_121, mm_br_t rfl, rd_wrgb h hb (by omega), mm_cV_ok, m_257x h hb (by omega)]
theorem m_257b (hE : pp_OE E B) (h : rd_M T) (hb : T.I 101 32 ≠ 0) (hd : 4 ≤ d) : mm_ev E d 257 [.ref (mm_ad B 101)] (mm_hp B T c) = mm_oI 0 (mm_hp B T c) := by
  refine mm_v257 (by omega) (fun F e hF he => ?_)
  rw [mm_e257_0, rd_isWb hE h hb (by omega) (by omega), mm_cI_ok, mm_br_t rfl, rd_isSMb h hb (by omega) (by omega), mm_cI_ok, mm_br_t rfl, m_256b h hb (by omega), mm_cI_ok, rd_isSMb h hb (by omega) (by omega), mm_cI_ok, mm_br_t rfl, rd_isSMb h hb (by omega) (by omega), mm_cI_ok, mm_br_t rfl, m_257y h hb (by omega)]
  have z : aq_j 35 (mm_i 0) (mm_i 0) = mm_i 0 := by
    unfold aq_j
    rw [if_neg (by omega), if_neg (by omega), if_neg (by omega), if_neg (by omega), if_neg (by omega), if_pos rfl, if_pos (by decide)]
  rw [z]
theorem m_258x {n : Nat} {v : Int32} {o : Option Value} (hE : pp_OE E B) (hv : v = mm_i 0 ∨ v = mm_i 1) (h : rd_M T) (hb : T.I 101 32 ≠ 0) (hd : 1 ≤ e) : mm_r258_5 E (mm_ev E e) (n + 1) (mm_ad B 101) v o (mm_hp B T c) = some (.inl (some (.int v)), mm_hp B T c) := by
  rw [mm_e258_5, rd_isWb hE h hb (by omega) (by omega), mm_cI_ok, mm_br_t rfl, aq_bz hv]
theorem m_258b (hE : pp_OE E B) (h : rd_M T) (hb : T.I 101 32 ≠ 0) (hd : 5 ≤ d) : mm_ev E d 258 [.ref (mm_ad B 101)] (mm_hp B T c) = mm_oI 0 (mm_hp B T c) := by
  refine mm_v258 (by omega) (fun F e hF he => ?_)
  rw [mm_e258_0, m_257b hE h hb (by omega), mm_cI_ok]
  exact m_258x hE (Or.inl rfl) h hb (by omega)
theorem m_259x {n : Nat} {v : Int32} {o : Option Value} (hE : pp_OE E B) (hv : v = mm_i 0 ∨ v = mm_i 1) (h : rd_M T) (hb : T.I 101 32 ≠ 0) (hd : 1 ≤ e) : mm_r259_5 E (mm_ev E e) (n + 1) (mm_ad B 101) v o (mm_hp B T c) = some (.inl (some (.int v)), mm_hp B T c) := by
  rw [mm_e259_5, rd_isWb hE h hb (by omega) (by omega), mm_cI_ok, mm_br_t rfl, aq_bz hv]
theorem m_259b (hE : pp_OE E B) (h : rd_M T) (hb : T.I 101 32 ≠ 0) (hd : 6 ≤ d) : mm_ev E d 259 [.ref (mm_ad B 101)] (mm_hp B T c) = mm_oI 0 (mm_hp B T c) := by
  refine mm_v259 (by omega) (fun F e hF he => ?_)
  rw [mm_e259_0, m_258b hE h hb (by omega), mm_cI_ok]
  exact m_259x hE (Or.inl rfl) h hb (by omega)
end
section
variable {E : mm_E} {e e' B : Nat} {S T : mm_S} {c c' : mm_N} {k s p : Int} {W : Int → Int} {T0 : mm_S}
/-- the second sum of a comparison: S, T behind the first, which began at S0, T0 -/
theorem aq_cmp {op b : Int} {v : Int32} {S0 : mm_S} {n m : Nat} {x2 : Int32} {o3 o3' : Option Value} (ho : (op = 33 ∧ b = -1) ∨ (op = 34 ∧ b = 0) ∨ (op = 35 ∧ b = 1)) (hp : 0 ≤ p ∧ p ≤ 6) (he : 3 ≤ e) (he' : 3 ≤ e') (SUM : ∀ S1 T1 : mm_S, T1.A = T0.A → aq_G S1 T1 k s p → aq_r E B c c' k s p W (30 + 2 * p) S1 T1 (mm_ev E e 66 [.ref (mm_ad B 97), .int (mm_i p)] (mm_hp B S1 c)) (mm_ev E e' 256 [.ref (mm_ad B 101)] (mm_hp B T1 c'))) (hA : T.A = T0.A) (h : aq_G S T k s p) (s3 : S.I 1 5 = 3) (z1 : S.I 97 4 - S0.I 97 4 ≤ S.I 1 3 - S0.I 1 3) (z2 : S0.I 1 3 < S.I 1 3) (z3 : S0.I 97 4 ≤ S0.I 1 3) (hC : k = 1 → aq_C E B s W (S.A 98) (S0.I 97 4) (S.I 97 4) v (30 + 2 * p)) : ∃ (S' T' : mm_S) (v' : Int32), aq_FS S S' ∧ aq_FT T T' ∧ mm_r257_121 E (mm_ev E e') (m + 2) (mm_ad B 101) v (mm_i b) o3' (mm_hp B T c') = some (.inl (some (.int v')), mm_hp B T' c') ∧ (v' = mm_i 0 ∨ v' = mm_i 1) ∧ ((mm_r65_183 E (mm_ev E e) (n + 1) (mm_ad B 97) (mm_i p) x2 o3 (mm_i op) (mm_hp B S c) = mm_oI 1 (mm_hp B S' c) ∧ aq_G S' T' k s p ∧ S'.I 97 4 - S0.I 97 4 ≤ S'.I 1 3 - S0.I 1 3 ∧ S0.I 1 3 < S'.I 1 3 ∧ (k = 1 → aq_C E B s W (S'.A 98) (S0.I 97 4) (S'.I 97 4) v' (3 * p + 2))) ∨ (mm_r65_183 E (mm_ev E e) (n + 1) (mm_ad B 97) (mm_i p) x2 o3 (mm_i op) (mm_hp B S c) = mm_oI 0 (mm_hp B S' c) ∧ aq_X S' T')) := by
  have h1 := h.1.1
  have st := h.1.2.2.2.2.2.2.2.2 (by omega)
  have h97 := h.2.2.2.2.2.2.1
  have n2 := h.2.2.2.2.2.1
  obtain ⟨g1, g2, g3⟩ := aq_G_s h
  obtain ⟨S1, T1, w, f1, f2, f3, f4⟩ := SUM (rd_s S) (rd_m T) hA g1
  have fS := aq_FS_t (aq_FS_s S) f1
  have fT := aq_FT_t (aq_FT_m T) f2
  rw [mm_e65_183, mm_br_eq (by omega) (by omega) (by omega) (by omega), if_neg (by omega)]
  simp (disch := omega) only [mm_ptQ]
  rw [rd_adv h1 (by omega), mm_cV_ok, mm_e257_121, mm_br_eq (by omega) (by omega) (by omega) (by omega), if_neg (by omega), mm_e257_131, rd_pas h.1.2.1 h.1.2.2.1 (by omega), mm_cV_ok, f3, mm_cI_ok, m_cmp (op := op) (by omega)]
  rcases f4 with ⟨u1, u2, u3, u4, u5⟩ | ⟨u1, u2⟩
  · have y7 := u2.2.2.2.2.2.2.1
    have y8 := u2.2.2.2.2.2.1
    have yk := u2.1.1.2.2.2
    have G2 := aq_G_mk (v := op) u2 (by omega)
    have m13 : (aq_mk S1 op).I 1 3 = S1.I 1 3 := aq_mkI (by omega)
    have m4 := aq_mk4 S1 op
    rw [u1, mm_cI_ok, mm_br_eq (by omega) (by omega) (by omega) (by omega), if_neg (by omega), c_mark (by omega) op y7 (by omega), mm_cI_ok, mm_br_eq (by omega) (by omega) (by omega) (by omega), if_neg (by omega), mm_bz1]
    refine ⟨aq_mk S1 op, T1, _, aq_FS_t fS (aq_FS_mk S1 op), fT, rfl, aq_j01 (by omega), Or.inl ⟨rfl, G2, by omega, by omega, fun hk => ?_⟩⟩
    have c1 := aq_C_t (hC hk) (show 3 * p + 2 ≤ 30 + 2 * p by omega)
    have c2 := aq_C_t (u5 hk) (show 3 * p + 2 + 1 ≤ 30 + 2 * p by omega)
    rw [g3] at c2
    rw [m4]
    have c1' : aq_C E B s W ((aq_mk S1 op).A 98) (S0.I 97 4) (S.I 97 4) v (3 * p + 2) := aq_C_c c1 (fun i i0 i1 => by
      rw [aq_mkA, mm_u_ne (by have := fS.2.2.2; omega)]
      exact fS.2.2.1 i i1)
    have c2' : aq_C E B s W ((aq_mk S1 op).A 98) (S.I 97 4) (S1.I 97 4) w (3 * p + 2 + 1) := aq_C_c c2 (fun i i0 i1 => by rw [aq_mkA, mm_u_ne (by omega)])
    exact aq_C_j (op := op) c1' c2' (by unfold aq_op; omega) (by rw [aq_mkA, mm_u_eq]) (by omega)
  · rw [u1, mm_cI_ok, mm_br_t rfl, mm_bz0]
    exact ⟨S1, T1, _, fS, fT, rfl, aq_j01 (by omega), Or.inr ⟨rfl, u2⟩⟩
end
