/-! NETWORK -/
theorem rd_first {S T : mm_S} (hn : 0 ≤ S.I 1 2 ∧ S.I 1 2 ≤ 400) (hB : pp_by (S.A 2) (S.I 1 2)) (h27 : T.I 101 27 = S.I 1 2) (h5 : ∀ i : Int, 0 ≤ i → i < S.I 1 2 → T.A 122 i = S.A 2 i) (h32 : T.I 101 32 = 0) : rd_T (pp_tT S 0) (pp_tM T 0) := by
  have hB2 : pp_by (T.A 122) (T.I 101 27) := fun i i0 i1 => by
    rw [h27] at i1
    rw [h5 i i0 i1]
    exact hB i i0 i1
  have hM := pp_KM_t (S := T) (p := 0) hB2 (by omega) (by omega) (by omega) (by omega)
  have s3 : (pp_tT S 0).I 1 3 = pp_tb (S.A 2) (S.I 1 2) 0 := by unfold pp_tT; simp (disch := omega) only [mm_gs, pp_ne]
  have s4 : (pp_tT S 0).I 1 4 = pp_te (S.A 2) (S.I 1 2) 0 := by unfold pp_tT; simp (disch := omega) only [mm_gs, pp_ne]
  have s5 : (pp_tT S 0).I 1 5 = pp_tk (S.A 2) (S.I 1 2) 0 := by unfold pp_tT; simp (disch := omega) only [mm_gs, pp_ne]
  have s2 : (pp_tT S 0).I 1 2 = S.I 1 2 := by unfold pp_tT; rw [mm_gI_ne (by omega), mm_gI_ne (by omega), mm_gI_ne (by omega)]
  have m30 : (pp_tM T 0).I 101 30 = pp_tb (T.A 122) (T.I 101 27) 0 := by unfold pp_tM; simp (disch := omega) only [mm_gs, pp_ne]
  have m31 : (pp_tM T 0).I 101 31 = pp_te (T.A 122) (T.I 101 27) 0 := by unfold pp_tM; simp (disch := omega) only [mm_gs, pp_ne]
  have m29 : (pp_tM T 0).I 101 29 = pp_tk (T.A 122) (T.I 101 27) 0 := by unfold pp_tM; simp (disch := omega) only [mm_gs, pp_ne]
  have mO : ∀ k, k = 27 ∨ k = 32 → (pp_tM T 0).I 101 k = T.I 101 k := fun k hk => by unfold pp_tM; rw [mm_gI_ne (by omega), mm_gI_ne (by omega), mm_gI_ne (by omega), mm_gI_ne (by omega)]
  have e := pp_te_r (t := S.A 2) (n := S.I 1 2) (p := 0) (by omega) (by omega)
  refine ⟨pp_KT_t hB hn.2 (by omega) (by omega), ⟨hM, ?_⟩, ?_, ?_, ?_, ?_, ?_, ?_, ?_⟩
  · show pp_KF (T.A 122) ((pp_tM T 0).I 101 29) ((pp_tM T 0).I 101 30) ((pp_tM T 0).I 101 31)
    rw [m29, m30, m31]
    exact pp_KF_t
  · rw [mO 32 (by omega)]; exact h32
  · rw [mO 27 (by omega), s2]; exact h27
  · rw [s2]; exact h5
  · rw [m30, s3, h27, rd_tb h5 (by omega)]
  · rw [m31, s4, h27, rd_te h5 (by omega) (by omega)]
  · rw [m29, s5, h27, rd_tk h5 (by omega) (by omega)]
  · rw [s5, s3, s4]
    intro z
    exact e.2.2 (pp_tk3 z)
section
variable {E : mm_E} {d B : Nat} {S : mm_S} {k : Nat} {c : mm_N}
theorem c_endReading (hd : 1 ≤ d) {v : Int} (v0 : 0 ≤ v ∧ v ≤ 5) : mm_ev E d 138 [.ref (mm_ad B 0), .int (mm_i v)] (mm_hp B S c) = mm_oV (mm_hp B ((S.sI 0 13 (if v = 0 then -1 else S.I 1 3)).sI 1 1 0) c) := by
  refine mm_v138 (by omega) (fun F e hF he => ?_)
  rw [mm_e138_0, mm_br_eq (by omega) (by omega) (by omega) (by omega)]
  by_cases q : v = 0
  · rw [if_pos q, if_pos q]
    simp (disch := omega) only [mm_ptP]
    simp (disch := omega) only [mm_ptT]
  · rw [if_neg q, if_neg q]
    simp (disch := omega) only [mm_ptP]
    simp (disch := omega) only [mm_ptT]
    simp (disch := omega) only [mm_ptP]
    simp (disch := omega) only [mm_ptT]
/-- the model's clearing of all stages -/
theorem l_clr12 {e : Nat} (hd : 1 ≤ e) {x1 x2 : Int32} : ∀ (j m : Nat) (s : Int) (t f : Int → Int), 0 ≤ s → s + j = 12 → j < m → ∃ t' f', (∀ i : Int, s ≤ i → i < 12 → t' i = 0) ∧ (∀ i : Int, i < s → t' i = t i) ∧ (∀ i : Int, 40 * s ≤ i → i < 480 → f' i = 0) ∧ (∀ i : Int, i < 40 * s → f' i = f i) ∧ mm_r248_88 E (mm_ev E e) m (mm_ad B 101) x1 x2 (mm_i s) (mm_hp B ((S.sA 105 t).sA 106 f) c) = mm_oI (S.A 102 0) (mm_hp B ((S.sA 105 t').sA 106 f') c) := by
  intro j
  induction j with
  | zero =>
    intro m s t f s0 hs hm
    obtain ⟨m, rfl⟩ : ∃ q, m = q + 1 := ⟨m - 1, by omega⟩
    refine ⟨t, f, fun i i1 i2 => by omega, fun i _ => rfl, fun i i1 i2 => by omega, fun i _ => rfl, ?_⟩
    rw [mm_e248_88, mm_br_le (by omega) (by omega) (by omega) (by omega), if_pos (by omega), c_many hd, mm_cI_ok]
    rfl
  | succ j ih =>
    intro m s t f s0 hs hm
    obtain ⟨m, rfl⟩ : ∃ q, m = q + 1 := ⟨m - 1, by omega⟩
    obtain ⟨g, g1, g2, g3⟩ := m_clear (E := E) (d := e) (B := B) (S := (S.sA 105 t).sA 106 f) (c := c) (s := s) hd s0 (by omega)
    have e1 : ((S.sA 105 t).sA 106 f).A 105 = t := by rw [mm_gA_ne (by omega), mm_gs.2.2.2.2.2.2.2.2.1]
    have e2 : ((S.sA 105 t).sA 106 f).A 106 = f := mm_gs.2.2.2.2.2.2.2.2.1 _ _ _
    rw [e1] at g3
    rw [e2] at g2
    obtain ⟨t', f', q1, q2, q3, q4, q5⟩ := ih m (s + 1) (mm_u t s 0) g (by omega) (by omega) (by omega)
    refine ⟨t', f', fun i i1 i2 => ?_, fun i hi => ?_, fun i i1 i2 => ?_, fun i hi => ?_, ?_⟩
    · by_cases z : i = s
      · rw [q2 i (by omega), z, mm_u_eq]
      · exact q1 i (by omega) i2
    · rw [q2 i (by omega), mm_u_ne (by omega)]
    · by_cases z : i < 40 * (s + 1)
      · rw [q4 i z]
        have y := g1 (i - 40 * s) (by omega) (by omega)
        rw [show 40 * s + (i - 40 * s) = i by omega] at y
        exact y
      · exact q3 i (by omega) i2
    · rw [q4 i (by omega), g2 i (by omega)]
    · rw [← q5, mm_e248_88, mm_br_le (by omega) (by omega) (by omega) (by omega), if_neg (by omega), g3, mm_cV_ok]
      simp (disch := omega) only [mm_hm, mm_gs, pp_cm]
/-- where both begin -/
theorem rd_start (h : iv S k) {T : mm_S} (hT : gl_M S T) {n : Int} (n0 : 0 ≤ n) (n1 : n ≤ S.I 1 1) {So To : mm_S} (s2 : So.I 1 2 = n) (sA2 : So.A 2 = S.A 2) (s96 : So.I 96 2 = 0) (s10 : So.I 14 10 = 0) (s11 : So.I 14 11 = 165) (sA15 : So.A 15 = S.A 15) (sA16 : ∀ i : Int, 0 ≤ i → i < 72 → So.A 16 i = 0) (sA17 : ∀ i : Int, 0 ≤ i → i < 12 → So.A 17 i = 0) (sA18 : ∀ i : Int, 0 ≤ i → i < 12 → So.A 18 i = 0) (t27 : To.I 101 27 = n) (tA : To.A 122 = T.A 122) (t32 : To.I 101 32 = 0) (r0 : ∀ i : Int, 0 ≤ i → i < 190 → To.A 103 i = if i = 1 then 165 else 0) : rd_G (pp_tT So 0) (pp_tM To 0) := by
  obtain ⟨p1, p2, p3, p4⟩ := h.1
  have m122 : T.A 122 = S.A 122 := (hT 122 (by omega) (by omega)).2
  have f0 := r0 0 (by omega) (by omega)
  have f1 := r0 1 (by omega) (by omega)
  have f2 := r0 2 (by omega) (by omega)
  rw [if_neg (by omega)] at f0 f2
  rw [if_pos rfl] at f1
  have t1 : rd_T (pp_tT So 0) (pp_tM To 0) := rd_first (by omega) (fun i i0 i1 => by rw [sA2]; exact (p4 i i0 (by omega)).2) (by omega) (fun i i0 i1 => by rw [tA, m122, sA2]; exact (p4 i i0 (by omega)).1) t32
  have iO : ∀ x k, x ≠ 1 → (pp_tT So 0).I x k = So.I x k := fun x k hx => by unfold pp_tT; rw [mm_gI_ne (by omega), mm_gI_ne (by omega), mm_gI_ne (by omega)]
  refine ⟨t1, by rw [iO 96 2 (by omega)]; exact s96, ?_⟩
  show rd_D _ (To.A 103)
  have sup0 : ∀ s, mm_sup (To.A 103) s = 0 := fun s => by unfold mm_sup; rw [f2]; rfl
  have cus0 : ∀ s, mm_cus (To.A 103) s = 0 := fun s => by unfold mm_cus; rw [f2]; rfl
  refine ⟨rd_bare f0 (by omega) f2, ⟨by rw [iO 14 10 (by omega), s10, f0], by rw [iO 14 11 (by omega), s11, f1], fun s s0 s1 => ?_, fun s w s0 s1 => by omega, fun s s0 s1 => ?_, fun s w s0 s1 => by omega, fun s w s0 s1 w0 w1 => ?_⟩, fun s s0 s1 => by omega, fun i i0 i1 => ?_, fun i i0 i1 => ?_⟩
  · rw [sup0, cus0]
    exact ⟨sA17 s s0 s1, sA18 s s0 s1⟩
  · show pp_tR (So.A 15) s
    rw [sA15]
    exact (h.2.2.2.2.1 s s0 s1).1
  · exact sA16 _ (by omega) (by omega)
  · show -1000 ≤ So.A 16 i ∧ So.A 16 i ≤ 1000
    rw [sA16 i i0 i1]
    omega
  · show -1000 ≤ To.A 103 (87 + i) ∧ To.A 103 (87 + i) ≤ 1000
    rw [r0 _ (by omega) (by omega), if_neg (by omega)]
    omega
end
