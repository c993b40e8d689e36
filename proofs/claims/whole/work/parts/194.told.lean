/-! READING: the draft and the row; numbers told -/
/-- what a reading leaves as it is -/
def rd_FS (S S' : mm_S) : Prop := (∀ x k, ¬ (x = 1 ∧ 3 ≤ k ∧ k ≤ 5) → ¬ (x = 96 ∧ k = 2) → ¬ (x = 14 ∧ 10 ≤ k ∧ k ≤ 11) → S'.I x k = S.I x k) ∧ (∀ x, ¬ (15 ≤ x ∧ x ≤ 18) → S'.A x = S.A x)
def rd_FT (T T' : mm_S) : Prop := (∀ x k, ¬ (x = 101 ∧ 28 ≤ k ∧ k ≤ 33) → T'.I x k = T.I x k) ∧ (∀ x, x ≠ 103 → T'.A x = T.A x) ∧ T'.L = T.L ∧ T'.J = T.J
theorem rd_FS_r (S : mm_S) : rd_FS S S := ⟨fun _ _ _ _ _ => rfl, fun _ _ => rfl⟩
theorem rd_FT_r (T : mm_S) : rd_FT T T := ⟨fun _ _ _ => rfl, fun _ _ => rfl, rfl, rfl⟩
theorem rd_FS_t {S U V : mm_S} (h : rd_FS S U) (g : rd_FS U V) : rd_FS S V := ⟨fun x k a b c => (g.1 x k a b c).trans (h.1 x k a b c), fun x a => (g.2 x a).trans (h.2 x a)⟩
theorem rd_FT_t {S U V : mm_S} (h : rd_FT S U) (g : rd_FT U V) : rd_FT S V := ⟨fun x k a => (g.1 x k a).trans (h.1 x k a), fun x a => (g.2.1 x a).trans (h.2.1 x a), g.2.2.1.trans h.2.2.1, g.2.2.2.trans h.2.2.2⟩
theorem rd_FS_s (S : mm_S) : rd_FS S (rd_s S) := ⟨fun _ _ a _ _ => rd_sI a, fun _ _ => rfl⟩
theorem rd_FT_m (T : mm_S) : rd_FT T (rd_m T) := ⟨fun _ _ a => rd_mI (by omega), fun _ _ => rfl, rfl, rfl⟩
theorem rd_FT_w (T : mm_S) (v : Int) : rd_FT T (rd_w T v) := ⟨fun _ _ a => rd_wI (by omega), fun _ _ => rfl, rfl, rfl⟩
theorem rd_FS_A (S : mm_S) {x : Nat} (hx : 15 ≤ x ∧ x ≤ 18) (f : Int → Int) : rd_FS S (S.sA x f) := ⟨fun _ _ _ _ _ => rfl, fun y a => mm_gA_ne (by omega)⟩
theorem rd_FT_A (T : mm_S) (f : Int → Int) : rd_FT T (T.sA 103 f) := ⟨fun _ _ _ => rfl, fun y a => mm_gA_ne a, rfl, rfl⟩
theorem rd_FS_f (S : mm_S) (v : Int) : rd_FS S (S.sI 96 2 v) := ⟨fun _ _ _ b _ => mm_gI_ne b, fun _ _ => rfl⟩
/-- letters of names stay small -/
def rd_nb (f : Int → Int) : Prop := ∀ i : Int, 0 ≤ i → i < 72 → -1000 ≤ f i ∧ f i ≤ 1000
/-- a row told by the draft -/
def rd_D (S : mm_S) (f : Int → Int) : Prop := pp_RO f ∧ pp_EQ S 14 f ∧ iv_R2 f ∧ rd_nb (S.A 16) ∧ rd_nb (fun i => f (87 + i))
/-- between two lines -/
def rd_G (S T : mm_S) : Prop := rd_T S T ∧ S.I 96 2 = 0 ∧ rd_D S (T.A 103)
/-- within a stage -/
def rd_H (S T : mm_S) : Prop := rd_T S T ∧ S.I 96 2 = 0 ∧ (0 ≤ T.A 103 0 ∧ T.A 103 0 < 12) ∧ rd_D S (mm_u (T.A 103) 0 (T.A 103 0 + 1))
/-- at a fault -/
def rd_V (S : mm_S) : Prop := ∃ f, pp_RO f ∧ pp_EQ S 14 f
def rd_X (S T : mm_S) : Prop := (∃ v, rd_B S T v ∧ S.I 96 2 = v) ∧ rd_V S
theorem rd_D_c {S U : mm_S} {f : Int → Int} (hI : ∀ k, k = 10 ∨ k = 11 → U.I 14 k = S.I 14 k) (hA : ∀ x, 15 ≤ x → x ≤ 18 → U.A x = S.A x) (h : rd_D S f) : rd_D U f := by
  obtain ⟨h1, h2, h3, h4, h5⟩ := h
  refine ⟨h1, ?_, h3, ?_, h5⟩
  · unfold pp_EQ at h2 ⊢
    rw [hI 10 (by omega), hI 11 (by omega), hA (14 + 1) (by omega) (by omega), hA (14 + 2) (by omega) (by omega), hA (14 + 3) (by omega) (by omega), hA (14 + 4) (by omega) (by omega)]
    exact h2
  · rw [hA 16 (by omega) (by omega)]; exact h4
theorem rd_D_u {S U : mm_S} {f : Int → Int} {s w v : Int} (h : rd_D S f) (e10 : U.I 14 10 = S.I 14 10) (e11 : U.I 14 11 = S.I 14 11) (e1 : U.A 15 = mm_u (S.A 15) (s * 7 + w) v) (e2 : U.A 16 = S.A 16) (e3 : U.A 17 = S.A 17) (e4 : U.A 18 = S.A 18) (s0 : 0 ≤ s) (s1 : s < f 0) (w0 : 0 ≤ w) (w1 : w < 7) (h3 : pp_ml w ≤ v) (h4 : v ≤ pp_mo w) : rd_D U (mm_u f (3 + 7 * s + w) v) := by
  obtain ⟨g1, g2, g3, g4, g5⟩ := h
  have n := g1.1
  refine ⟨iv_rowu g1 s0 s1 w0 w1 h3 (Or.inl h4), iv_EQu (S := S) (T := U) (a := 14) g2 g1 e10 e11 e1 e2 e3 e4 s0 s1 w0 w1 h3 (Or.inl h4), iv_R2u g3 s0 w0 w1 h4, by rw [e2]; exact g4, fun i i0 i1 => ?_⟩
  show -1000 ≤ mm_u f (3 + 7 * s + w) v (87 + i) ∧ mm_u f (3 + 7 * s + w) v (87 + i) ≤ 1000
  rw [mm_u_ne (by omega)]
  exact g5 i i0 i1
theorem rd_u0 {f : Int → Int} {i v n : Int} (hi : i ≠ 0) : mm_u (mm_u f i v) 0 n = mm_u (mm_u f 0 n) i v := by
  funext x
  unfold mm_u
  by_cases z : x = 0
  · rw [if_pos z, if_neg (by omega), if_pos z]
  · rw [if_neg z, if_neg z]
theorem rd_ml {w : Int} (w0 : 0 ≤ w) (w1 : w < 7) : pp_ml w ≤ 0 ∧ 0 ≤ pp_mo w ∧ pp_mo w ≤ 9999 := by
  rcases (by omega : w = 0 ∨ w = 1 ∨ w = 2 ∨ w = 3 ∨ w = 4 ∨ w = 5 ∨ w = 6) with rfl | rfl | rfl | rfl | rfl | rfl | rfl <;> decide
section
variable {E : mm_E} {d e B : Nat} {S T : mm_S} {c c' : mm_N}
theorem c_refuse (hd : 1 ≤ d) (v : Int) : mm_ev E d 91 [.ref (mm_ad B 96), .int (mm_i v)] (mm_hp B S c) = mm_oI 0 (mm_hp B (S.sI 96 2 v) c) := by
  refine mm_v91 (by omega) (fun F e hF he => ?_)
  rw [mm_e91_0]
  simp (disch := omega) only [mm_ptG, mm_bz0]
theorem rd_wX {v : Int} (hV : rd_V S) (h : rd_T S T) (v0 : 1 ≤ v) (v1 : v ≤ 5) : rd_X (S.sI 96 2 v) (rd_w T v) := by
  have z := rd_wB h v0 v1
  refine ⟨⟨v, ⟨z.1, z.2.1, z.2.2.1, ?_⟩, mm_gs.1 _ _ _ _⟩, hV⟩
  rw [z.2.2.2, mm_gI_ne (by omega)]
/-- a number told to the newest stage of the draft -/
def rd_tl (S : mm_S) (w v : Int) : mm_S := rd_s (S.sA 15 (mm_u (S.A 15) ((S.I 14 10 - 1) * 7 + w) v))
theorem rd_tlT (h : rd_T S T) (w v : Int) : rd_T (rd_tl S w v) (rd_m T) ∧ S.I 1 4 ≤ (rd_tl S w v).I 1 3 := by
  have g : rd_T (S.sA 15 (mm_u (S.A 15) ((S.I 14 10 - 1) * 7 + w) v)) T := rd_T_c (S := S) (T := T) (fun _ _ => rfl) rfl (fun _ _ => rfl) rfl h
  exact rd_next g
theorem rd_tlF (S : mm_S) (w v : Int) : rd_FS S (rd_tl S w v) := rd_FS_t (rd_FS_A S (by omega) _) (rd_FS_s _)
theorem rd_told (hE : pp_OE E B) (h : rd_T S T) (hn : 1 ≤ S.I 14 10 ∧ S.I 14 10 ≤ 12) {w : Int} (w0 : 0 ≤ w) (w1 : w < 6) (hd : 4 ≤ d) : ∃ N : Int, (mm_ev E d 84 [.ref (mm_ad B 96), .int (mm_i w)] (mm_hp B S c) = mm_oI 1 (mm_hp B (rd_tl S w N) c) ∧ (0 ≤ N ∧ N ≤ pp_mo w) ∧ ∀ (d' : Nat) (c' : mm_N), 4 ≤ d' → mm_ev E d' 239 [.ref (mm_ad B 101), .int (mm_i (pp_mo w))] (mm_hp B T c') = mm_oI N (mm_hp B (rd_m T) c')) ∨ (∃ v, (1 ≤ v ∧ v ≤ 5) ∧ mm_ev E d 84 [.ref (mm_ad B 96), .int (mm_i w)] (mm_hp B S c) = mm_oI 0 (mm_hp B (S.sI 96 2 v) c) ∧ ∀ (d' : Nat) (c' : mm_N), 4 ≤ d' → mm_ev E d' 239 [.ref (mm_ad B 101), .int (mm_i (pp_mo w))] (mm_hp B T c') = mm_oI N (mm_hp B (rd_w T v) c')) := by
  have h' := h
  obtain ⟨h1, h2, h3, h4, h5, h6, h7, h8, h9⟩ := h
  have h1' := h1
  obtain ⟨k1, k2, k3, k4, k5, k6, k7, k8⟩ := h1
  have ml := rd_ml w0 (by omega : w < 7)
  by_cases q : S.I 1 5 = 2
  · obtain ⟨N, n1, n2, n3⟩ := rd_num (E := E) (B := B) h' q
    by_cases q2 : N ≤ pp_mo w
    · refine ⟨N, Or.inl ⟨mm_v84 (by omega) (fun F e hF he => ?_), ⟨n1.1, q2⟩, fun d' c' hd' => ?_⟩⟩
      · have kt : pp_KT (S.sA 15 (mm_u (S.A 15) ((S.I 14 10 - 1) * 7 + w) N)) := rd_KT_c (S := S) (fun _ _ => rfl) rfl h1'
        rw [mm_e84_0]
        simp (disch := omega) only [mm_ptG]
        simp (disch := omega) only [mm_ptT, mm_br_eq]
        rw [if_pos q, n2 e c (by omega), mm_cI_ok, c_fits hE (by omega) (by omega) (by omega) (by omega) (by omega), mm_cI_ok, mm_br_b1, if_pos (decide_eq_true (by omega)), mm_e84_37]
        simp (disch := omega) only [mm_ptG]
        simp (disch := omega) only [mm_ptN, mm_hm]
        rw [n2 e c (by omega), mm_cI_ok, c_tell (by omega) (by omega) (by omega) (by omega) w0 (by omega), mm_cV_ok]
        simp (disch := omega) only [mm_ptG]
        rw [show S.sA (14 + 1) (mm_u (S.A (14 + 1)) ((S.I 14 10 - 1) * 7 + w) N) = S.sA 15 (mm_u (S.A 15) ((S.I 14 10 - 1) * 7 + w) N) from rfl, rd_adv kt (by omega), mm_cV_ok, mm_bz1]
        rfl
      · rw [n3 d' c' _ hd' (by omega) (by omega), if_pos q2, show min N 10000 = N by omega]
    · refine ⟨min N 10000, Or.inr ⟨2, by omega, mm_v84 (by omega) (fun F e hF he => ?_), fun d' c' hd' => ?_⟩⟩
      · rw [mm_e84_0]
        simp (disch := omega) only [mm_ptG]
        simp (disch := omega) only [mm_ptT, mm_br_eq]
        rw [if_pos q, n2 e c (by omega), mm_cI_ok, c_fits hE (by omega) (by omega) (by omega) (by omega) (by omega), mm_cI_ok, mm_br_b1, if_neg (fun z => q2 (of_decide_eq_true z).2.2.2), c_refuse (by omega), mm_cI_ok, mm_bz0]
      · rw [n3 d' c' _ hd' (by omega) (by omega), if_neg q2]
  · refine ⟨0, Or.inr ⟨1, by omega, mm_v84 (by omega) (fun F e hF he => ?_), fun d' c' hd' => ?_⟩⟩
    · rw [mm_e84_0]
      simp (disch := omega) only [mm_ptG]
      simp (disch := omega) only [mm_ptT, mm_br_eq]
      rw [if_neg q, c_refuse (by omega), mm_cI_ok, mm_bz0]
    · rw [m_readNumber hd' h2.1 h2.2 (by omega), if_pos h3, if_neg (by rw [h8]; exact q)]
      rfl
theorem rd_rnb (h : rd_M T) (hb : T.I 101 32 ≠ 0) (hd : 4 ≤ d) {x : Int} (hx : 0 ≤ x ∧ x ≤ 10000) : mm_ev E d 239 [.ref (mm_ad B 101), .int (mm_i x)] (mm_hp B T c) = mm_oI 0 (mm_hp B T c) := by
  rw [m_readNumber hd h.1 h.2 hx, if_neg hb]
end
