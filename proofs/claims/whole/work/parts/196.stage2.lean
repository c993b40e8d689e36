/-! READING: a stage -/
theorem rd_new {S U : mm_S} {f g l : Int → Int} {dy co : Int} (h : rd_D S f) (hn : f 0 < 12) (d0 : 0 ≤ dy ∧ dy ≤ 9) (c0 : 0 ≤ co ∧ co ≤ 999) (hl : ∀ k : Int, 0 ≤ k → k < 6 → -1000 ≤ l k ∧ l k ≤ 1000) (e10 : U.I 14 10 = S.I 14 10 + 1) (e11 : U.I 14 11 = S.I 14 11) (e1 : ∀ w : Int, 0 ≤ w → w < 7 → U.A 15 (f 0 * 7 + w) = iv_nw dy co w) (e1' : ∀ i : Int, ¬ (f 0 * 7 ≤ i ∧ i < f 0 * 7 + 7) → U.A 15 i = S.A 15 i) (e2 : ∀ k : Int, 0 ≤ k → k < 6 → U.A 16 (f 0 * 6 + k) = l k) (e2' : ∀ i : Int, ¬ (f 0 * 6 ≤ i ∧ i < f 0 * 6 + 6) → U.A 16 i = S.A 16 i) (e3 : U.A 17 = S.A 17) (e4 : U.A 18 = S.A 18) (g0 : g 0 = f 0 + 1) (g1 : ∀ w : Int, 0 ≤ w → w < 7 → g (3 + 7 * f 0 + w) = iv_nw dy co w) (g2 : ∀ k : Int, 0 ≤ k → k < 6 → g (87 + 6 * f 0 + k) = l k) (g3 : ∀ i : Int, i ≠ 0 → ¬ (3 + 7 * f 0 ≤ i ∧ i < 3 + 7 * f 0 + 7) → ¬ (87 + 6 * f 0 ≤ i ∧ i < 87 + 6 * f 0 + 6) → g i = f i) : rd_D U g := by
  obtain ⟨hR, hQ, h2, hb, hb2⟩ := h
  have n := hR.1
  have m := hR.2.2.1
  obtain ⟨v0, v1, v2, v3, v4, v5, v6⟩ := iv_nw_v (dy := dy) (co := co)
  have hG : pp_RO g := by
    refine (pp_RO_node (g := g) hR hn g0 (by rw [g3 1 (by omega) (by omega) (by omega)]; exact hR.2.1) (g3 2 (by omega) (by omega) (by omega)) (fun l l0 l1 => ⟨g3 _ (by omega) (by omega) (by omega), g3 _ (by omega) (by omega) (by omega)⟩) (fun t t0 t1 => ?_)).1
    by_cases q : t = f 0
    · have z : ∀ w : Int, 0 ≤ w → w < 7 → g (3 + (t * 7 + w)) = iv_nw dy co w := fun w w0 w1 => by
        rw [show 3 + (t * 7 + w) = 3 + 7 * f 0 + w by omega]
        exact g1 w w0 w1
      unfold pp_tR
      dsimp only
      rw [z 0 (by omega) (by omega), z 1 (by omega) (by omega), z 2 (by omega) (by omega), z 3 (by omega) (by omega), z 4 (by omega) (by omega), z 5 (by omega) (by omega), z 6 (by omega) (by omega), v0, v1, v2, v3, v4, v5, v6]
      omega
    · have y := hR.2.2.2.2.1 t t0 (by omega)
      unfold pp_tR at y ⊢
      dsimp only at y ⊢
      rw [g3 _ (by omega) (by omega) (by omega), g3 _ (by omega) (by omega) (by omega), g3 _ (by omega) (by omega) (by omega), g3 _ (by omega) (by omega) (by omega), g3 _ (by omega) (by omega) (by omega), g3 _ (by omega) (by omega) (by omega), g3 _ (by omega) (by omega) (by omega)]
      exact y
  obtain ⟨q0, q1, q2, q3, q4, q5, q6⟩ := hQ
  refine ⟨hG, ⟨by rw [e10, q0, g0], by rw [e11, q1, g3 1 (by omega) (by omega) (by omega)], fun t t0 t1 => ?_, fun t w t0 t1 w0 w1 => ?_, fun t t0 t1 => ?_, fun t i t0 t1 i0 i1 => ?_, fun t i t0 t1 i0 i1 => ?_⟩, fun t t0 t1 => ?_, fun i i0 i1 => ?_, fun i i0 i1 => ?_⟩
  · show U.A 17 t = _ ∧ U.A 18 t = _
    rw [e3, e4, mm_sup_cg (f := f) (g3 2 (by omega) (by omega) (by omega)) (fun l l0 l1 => ⟨g3 _ (by omega) (by omega) (by omega), g3 _ (by omega) (by omega) (by omega)⟩), mm_cus_cg (f := f) (g3 2 (by omega) (by omega) (by omega)) (fun l l0 l1 => ⟨g3 _ (by omega) (by omega) (by omega), g3 _ (by omega) (by omega) (by omega)⟩)]
    exact q2 t t0 t1
  · rw [g0] at t1
    show U.A 15 _ = _
    by_cases q : t = f 0
    · rw [q, e1 w w0 w1, g1 w w0 w1]
    · rw [e1' _ (by omega), g3 _ (by omega) (by omega) (by omega)]
      exact q3 t w t0 (by omega) w0 w1
  · show pp_tR (U.A 15) t
    by_cases q : t = f 0
    · unfold pp_tR
      rw [q, e1 0 (by omega) (by omega), e1 1 (by omega) (by omega), e1 2 (by omega) (by omega), e1 3 (by omega) (by omega), e1 4 (by omega) (by omega), e1 5 (by omega) (by omega), e1 6 (by omega) (by omega), v0, v1, v2, v3, v4, v5, v6]
      omega
    · have y : pp_tR (S.A 15) t := q4 t t0 t1
      unfold pp_tR at y ⊢
      rw [e1' _ (by omega), e1' _ (by omega), e1' _ (by omega), e1' _ (by omega), e1' _ (by omega), e1' _ (by omega), e1' _ (by omega)]
      exact y
  · rw [g0] at t1
    show U.A 16 _ = _
    by_cases q : t = f 0
    · rw [q, e2 i i0 i1, g2 i i0 i1]
    · rw [e2' _ (by omega), g3 _ (by omega) (by omega) (by omega)]
      exact q5 t i t0 (by omega) i0 i1
  · rw [g0] at t0
    show U.A 16 _ = _
    rw [e2' _ (by omega)]
    exact q6 t i (by omega) t1 i0 i1
  · rw [g0] at t1
    by_cases q : t = f 0
    · rw [q, g1 5 (by omega) (by omega), v5]; omega
    · rw [g3 _ (by omega) (by omega) (by omega)]
      exact h2 t t0 (by omega)
  · by_cases q : f 0 * 6 ≤ i ∧ i < f 0 * 6 + 6
    · have y := e2 (i - f 0 * 6) (by omega) (by omega)
      rw [show f 0 * 6 + (i - f 0 * 6) = i by omega] at y
      rw [y]
      exact hl _ (by omega) (by omega)
    · rw [e2' i q]
      exact hb i i0 i1
  · show -1000 ≤ g (87 + i) ∧ g (87 + i) ≤ 1000
    by_cases q : f 0 * 6 ≤ i ∧ i < f 0 * 6 + 6
    · have y := g2 (i - f 0 * 6) (by omega) (by omega)
      rw [show 87 + 6 * f 0 + (i - f 0 * 6) = 87 + i by omega] at y
      rw [y]
      exact hl _ (by omega) (by omega)
    · rw [g3 _ (by omega) (by omega) (by omega)]
      exact hb2 i i0 i1
theorem rd_newV {S U : mm_S} {f l : Int → Int} {dy co : Int} (h : rd_D S f) (hn : f 0 < 12) (d0 : 0 ≤ dy ∧ dy ≤ 9) (c0 : 0 ≤ co ∧ co ≤ 999) (hl : ∀ k : Int, 0 ≤ k → k < 6 → -1000 ≤ l k ∧ l k ≤ 1000) (e10 : U.I 14 10 = S.I 14 10 + 1) (e11 : U.I 14 11 = S.I 14 11) (e1 : ∀ w : Int, 0 ≤ w → w < 7 → U.A 15 (f 0 * 7 + w) = iv_nw dy co w) (e1' : ∀ i : Int, ¬ (f 0 * 7 ≤ i ∧ i < f 0 * 7 + 7) → U.A 15 i = S.A 15 i) (e2 : ∀ k : Int, 0 ≤ k → k < 6 → U.A 16 (f 0 * 6 + k) = l k) (e2' : ∀ i : Int, ¬ (f 0 * 6 ≤ i ∧ i < f 0 * 6 + 6) → U.A 16 i = S.A 16 i) (e3 : U.A 17 = S.A 17) (e4 : U.A 18 = S.A 18) : rd_V U := by
  have n := h.1.1
  have m := h.1.2.2.1
  have z := rd_new (S := S) (U := U) (f := f) (g := fun i => if i = 0 then f 0 + 1 else if 3 + 7 * f 0 ≤ i ∧ i < 3 + 7 * f 0 + 7 then iv_nw dy co (i - (3 + 7 * f 0)) else if 87 + 6 * f 0 ≤ i ∧ i < 87 + 6 * f 0 + 6 then l (i - (87 + 6 * f 0)) else f i) (l := l) (dy := dy) (co := co) h hn d0 c0 hl e10 e11 e1 e1' e2 e2' e3 e4 (if_pos rfl) (fun w w0 w1 => by
    show (if 3 + 7 * f 0 + w = 0 then _ else if 3 + 7 * f 0 ≤ 3 + 7 * f 0 + w ∧ 3 + 7 * f 0 + w < 3 + 7 * f 0 + 7 then iv_nw dy co (3 + 7 * f 0 + w - (3 + 7 * f 0)) else _) = _
    rw [if_neg (by omega), if_pos (by omega), show 3 + 7 * f 0 + w - (3 + 7 * f 0) = w by omega]) (fun k k0 k1 => by
    show (if 87 + 6 * f 0 + k = 0 then _ else if 3 + 7 * f 0 ≤ 87 + 6 * f 0 + k ∧ 87 + 6 * f 0 + k < 3 + 7 * f 0 + 7 then _ else if 87 + 6 * f 0 ≤ 87 + 6 * f 0 + k ∧ 87 + 6 * f 0 + k < 87 + 6 * f 0 + 6 then l (87 + 6 * f 0 + k - (87 + 6 * f 0)) else _) = _
    rw [if_neg (by omega), if_neg (by omega), if_pos (by omega), show 87 + 6 * f 0 + k - (87 + 6 * f 0) = k by omega]) (fun i i0 i1 i2 => by
    show (if i = 0 then _ else if 3 + 7 * f 0 ≤ i ∧ i < 3 + 7 * f 0 + 7 then _ else if 87 + 6 * f 0 ≤ i ∧ i < 87 + 6 * f 0 + 6 then _ else f i) = _
    rw [if_neg i0, if_neg i1, if_neg i2])
  exact ⟨_, z.1, z.2.1⟩
section
variable {E : mm_E} {d d' e B : Nat} {S T : mm_S} {c c' : mm_N}
theorem l_nm (h : pp_KT S) (he : 2 ≤ e) {n : Int} (n0 : 0 ≤ n) (n1 : n < 12) : ∀ (j k m : Nat) (f : Int → Int), k + j = 6 → j < m → (∀ i : Int, 0 ≤ i → i < k → f (n * 6 + i) = rd_lt S i) → ∃ f', (∀ i : Int, 0 ≤ i → i < 6 → f' (n * 6 + i) = rd_lt S i) ∧ (∀ i : Int, ¬ (n * 6 ≤ i ∧ i < n * 6 + 6) → f' i = f i) ∧ mm_r83_37 E (mm_ev E e) m (mm_ad B 96) (mm_i n) (mm_i k) (mm_hp B (S.sA 16 f) c) = mm_oI 1 (mm_hp B (rd_s (S.sA 16 f')) c) := by
  intro j
  induction j with
  | zero =>
    intro k m f hk hm hf
    obtain ⟨m, rfl⟩ : ∃ q, m = q + 1 := ⟨m - 1, by omega⟩
    refine ⟨f, fun i i0 i1 => hf i i0 (by omega), fun i _ => rfl, ?_⟩
    have kt : pp_KT (S.sA 16 f) := rd_KT_c (S := S) (fun _ _ => rfl) rfl h
    rw [mm_e83_37, mm_br_le (by omega) (by omega) (by omega) (by omega), if_pos (by omega)]
    simp (disch := omega) only [mm_ptG]
    rw [rd_adv kt he, mm_cV_ok, mm_bz1]
  | succ j ih =>
    intro k m f hk hm hf
    obtain ⟨m, rfl⟩ : ∃ q, m = q + 1 := ⟨m - 1, by omega⟩
    obtain ⟨f', q1, q2, q3⟩ := ih (k + 1) m (mm_u f (n * 6 + k) (rd_lt S k)) (by omega) (by omega) (fun i i0 i1 => by
      by_cases z : i = k
      · rw [z, mm_u_eq]
      · rw [mm_u_ne (by omega)]; exact hf i i0 (by omega))
    refine ⟨f', q1, fun i hi => by rw [q2 i hi, mm_u_ne (by omega)], ?_⟩
    have kt : pp_KT (S.sA 16 f) := rd_KT_c (S := S) (fun _ _ => rfl) rfl h
    rw [Int.natCast_add, Int.natCast_one] at q3
    rw [← q3, mm_e83_37, mm_br_le (by omega) (by omega) (by omega) (by omega), if_neg (by omega), mm_br_eq (by omega) (by omega) (by omega) (by omega), if_neg (by omega)]
    have la := c_letterAt (E := E) (d := e) (B := B) (c := c) kt (by omega) (k := k) (by omega) (by omega)
    simp (disch := omega) only [mm_ptG, mm_hm]
    simp (disch := omega) only [mm_ptN, mm_ptT, mm_hm]
    rw [la, mm_cI_ok]
    simp (disch := omega) only [mm_ptN]
    show mm_r83_37 E (mm_ev E e) m (mm_ad B 96) (mm_i n) (mm_i (k + 1)) (mm_hp B ((S.sA 16 f).sA 16 (mm_u ((S.sA 16 f).A 16) (n * 6 + k) (rd_lt S k))) c) = _
    simp only [mm_gs]
theorem l_nmM (h : rd_T S T) {cl : mm_F} {n : Int} {o3 : Option Value} (n0 : 0 ≤ n) (n1 : n < 12) : ∀ (j k m : Nat) (f : Int → Int), k + j = 6 → j < m → (∀ i : Int, 0 ≤ i → i < k → f (87 + 6 * n + i) = rd_lt S i) → ∃ m' f', m ≤ m' + j ∧ (∀ i : Int, 0 ≤ i → i < 6 → f' (87 + 6 * n + i) = rd_lt S i) ∧ (∀ i : Int, ¬ (87 + 6 * n ≤ i ∧ i < 87 + 6 * n + 6) → f' i = f i) ∧ mm_r245_65 E cl m (mm_ad B 101) (mm_i n) (mm_i k) o3 (mm_hp B (T.sA 103 f) c) = mm_r245_65 E cl m' (mm_ad B 101) (mm_i n) (mm_i 6) o3 (mm_hp B (T.sA 103 f') c) := by
  obtain ⟨h1, h2, h3, h4, h5, h6, h7, h8, h9⟩ := h
  obtain ⟨k1, k2, k3, k4, k5, k6, k7, k8⟩ := h1
  intro j
  induction j with
  | zero =>
    intro k m f hk hm hf
    obtain rfl : k = 6 := by omega
    exact ⟨m, f, by omega, fun i i0 i1 => hf i i0 (by omega), fun i _ => rfl, rfl⟩
  | succ j ih =>
    intro k m f hk hm hf
    obtain ⟨m, rfl⟩ : ∃ q, m = q + 1 := ⟨m - 1, by omega⟩
    obtain ⟨m', f', q0, q1, q2, q3⟩ := ih (k + 1) m (mm_u f (87 + 6 * n + k) (rd_lt S k)) (by omega) (by omega) (fun i i0 i1 => by
      by_cases z : i = k
      · rw [z, mm_u_eq]
      · rw [mm_u_ne (by omega)]; exact hf i i0 (by omega))
    refine ⟨m', f', by omega, q1, fun i hi => by rw [q2 i hi, mm_u_ne (by omega)], ?_⟩
    rw [Int.natCast_add, Int.natCast_one] at q3
    rw [← q3, mm_e245_65, mm_br_le (by omega) (by omega) (by omega) (by omega), if_neg (by omega)]
    have e30 : (T.sA 103 f).I 101 30 = S.I 1 3 := h6
    have e31 : (T.sA 103 f).I 101 31 = S.I 1 4 := h7
    have e122 : ∀ i : Int, 0 ≤ i → i < S.I 1 2 → (T.sA 103 f).A 122 i = S.A 2 i := h5
    simp (disch := omega) only [mm_hm]
    simp (disch := omega) only [mm_ptM, mm_hm]
    rw [e30, e31, mm_br_le (by omega) (by omega) (by omega) (by omega)]
    unfold rd_lt
    by_cases q : S.I 1 4 ≤ S.I 1 3 + k
    · rw [if_pos q, if_pos q]
      simp (disch := omega) only [mm_ptM, mm_gs]
    · rw [if_neg q, if_neg q]
      simp (disch := omega) only [mm_ptM, mm_gs, mm_hm]
      rw [e122 (S.I 1 3 + k) (by omega) (by omega)]
theorem m_156b {n : Nat} {x1 x2 x3 : Int32} (hE : pp_OE E B) (h : rd_M T) (hb : T.I 101 32 ≠ 0) (hd : 1 ≤ e) : mm_r245_156 E (mm_ev E e) (n + 3) (mm_ad B 101) x1 x2 x3 (mm_hp B T c) = mm_oV (mm_hp B (T.sA 103 (mm_u (T.A 103) 0 (T.A 103 0 + 1))) c) := by
  have z := rd_m2b (E := E) (e := e) (B := B) (T := T) (c := c) (m := n) (x1 := x1) (x2 := x2) (x3 := x3) hE h hb hd
  unfold rd_m2 at z
  rw [mm_e245_156, rd_isWb hE h hb hd (by omega), mm_cI_ok, mm_br_t rfl, z]
theorem rd_stage (hE : pp_OE E B) (h : rd_G S T) (hd : 8 ≤ d) (hd' : 8 ≤ d') : rd_ok B c c' S T (mm_ev E d 82 [.ref (mm_ad B 96)] (mm_hp B S c)) (mm_ev E d' 245 [.ref (mm_ad B 101)] (mm_hp B T c')) := by
  obtain ⟨hT, hF, hD⟩ := h
  obtain ⟨e, rfl⟩ : ∃ e, d = e + 1 := ⟨d - 1, by omega⟩
  obtain ⟨F, hF1, hc⟩ := mm_w82 E e B S c
  obtain ⟨e', rfl⟩ : ∃ e', d' = e' + 1 := ⟨d' - 1, by omega⟩
  obtain ⟨G, hG1, hm⟩ := mm_w245 E e' B T c'
  have n := hD.1.1
  have e10 : S.I 14 10 = T.A 103 0 := hD.2.1.1
  rw [hc, hm, mm_e82_0, mm_e245_0]
  simp (disch := omega) only [mm_ptG, mm_ptM]
  simp (disch := omega) only [mm_ptN, mm_br_lt, mm_br_eq]
  by_cases q : S.I 14 10 < 12
  · rw [if_pos q, if_neg (by omega)]
    -- behind the word
    have h1 := rd_next hT
    have p1 := rd_H_p hT
    refine rd_ok_t (rd_FS_s S) (rd_FT_m T) p1 ?_
    rw [rd_adv hT.1 (by omega), mm_cV_ok, rd_pas hT.2.1 hT.2.2.1 (by omega), mm_cV_ok, rd_isNM hE h1.1 (by omega), mm_cI_ok, mm_br_b1]
    obtain ⟨S1, hS1⟩ : ∃ S1, S1 = rd_s S := ⟨_, rfl⟩
    obtain ⟨T1, hT1⟩ : ∃ T1, T1 = rd_m T := ⟨_, rfl⟩
    rw [← hS1, ← hT1] at h1 ⊢
    have D1 : rd_D S1 (T1.A 103) := by rw [hS1, hT1]; exact rd_D_c (fun k _ => rd_sI (by omega)) (fun x _ _ => rfl) hD
    have F1 : S1.I 96 2 = 0 := by rw [hS1, rd_sI (by omega)]; exact hF
    have n1 : T1.A 103 0 = T.A 103 0 := by rw [hT1]; rfl
    have e1 : S1.I 14 10 = T1.A 103 0 := D1.2.1.1
    obtain ⟨X, hX1, hX⟩ := mm_w83 E (e - 1) B S1 c
    rw [show e - 1 + 1 = e by omega] at hX
    rw [hX, mm_e83_0, rd_isN hE h1.1.1 (by omega), mm_cI_ok, mm_br_b1]
    have bad : ∀ v : Int, 1 ≤ v → v ≤ 5 → rd_ok B c c' S1 T1 (mm_oI 0 (mm_hp B (S1.sI 96 2 v) c)) (mm_r245_48 E (mm_ev E e') (G + 99) (mm_ad B 101) none none none (mm_hp B (rd_w T1 v) c')) := fun v v0 v1 => by
      have x := rd_wX ⟨_, D1.1, D1.2.1⟩ h1.1 v0 v1
      have b := rd_X_0 x
      have bm := b.1.1.2.2.2.2.2.2.2.2.2
      rw [mm_e245_48]
      simp (disch := omega) only [mm_ptM, mm_br_eq]
      rw [if_neg b.2]
      exact ⟨_, _, rd_FS_f S1 v, rd_FT_w T1 v, rfl, Or.inr ⟨rfl, x⟩⟩
    by_cases qn : rd_nB S1 = true
    · rw [if_pos qn, if_pos qn, c_findName h1.1.1 D1.2.2.2.1 (by omega) (by omega), mm_cI_ok, m_named h1.1 (fun i i0 i1 => D1.2.2.2.2 i i0 i1) (by omega) (by omega) e1 (fun s k s0 s1 k0 k1 => D1.2.1.2.2.2.2.2.1 s k s0 s1 k0 k1), mm_cI_ok]
      have fr := rd_fN_r (S := S1) (by omega)
      by_cases qf : rd_fN S1 = -1
      · rw [qf, mm_br_t rfl, mm_br_t rfl]
        simp (disch := omega) only [mm_ptG]
        -- the class: one stage more, its name
        obtain ⟨f', g1, g2, g3⟩ := c_grow (E := E) (d := e - 1) (B := B) (S := S1) (c := c) (a := 14) (by omega) (by omega) (by omega) (by omega)
        obtain ⟨S2, hS2⟩ : ∃ S2, S2 = (S1.sI 14 10 (S1.I 14 10 + 1)).sA (14 + 1) f' := ⟨_, rfl⟩
        rw [← hS2] at g3
        have i2 : ∀ x k, ¬ (x = 14 ∧ k = 10) → S2.I x k = S1.I x k := fun x k hx => by
          rw [hS2]
          show (S1.sI 14 10 _).I x k = _
          exact mm_gI_ne hx
        have a2 : ∀ x, x ≠ 15 → S2.A x = S1.A x := fun x hx => by rw [hS2]; exact mm_gA_ne hx
        have b2 : S2.A 15 = f' := by rw [hS2]; rfl
        have c2 : S2.I 14 10 = S1.I 14 10 + 1 := by rw [hS2]; exact mm_gs.1 _ _ _ _
        have t2 : rd_T S2 T1 := rd_T_c (S := S1) (T := T1) (fun k hk => i2 1 k (by omega)) (a2 2 (by omega)) (fun _ _ => rfl) rfl h1.1
        have lt2 : rd_lt S2 = rd_lt S1 := by
          funext k
          unfold rd_lt
          rw [i2 1 3 (by omega), i2 1 4 (by omega), a2 2 (by omega)]
        obtain ⟨nm, l1, l2, l3⟩ := l_nm (E := E) (e := e - 1) (B := B) (S := S2) (c := c) t2.1 (by omega) (n := S1.I 14 10) (by omega) (by omega) 6 0 (X + 99) (S2.A 16) (by omega) (by omega) (fun i i0 i1 => by omega)
        rw [pp_sA_id] at l3
        rw [lt2] at l1
        have l3 : mm_r83_37 E (mm_ev E (e - 1)) (X + 99) (mm_ad B 96) (mm_i (S1.I 14 10)) (mm_i 0) (mm_hp B S2 c) = mm_oI 1 (mm_hp B (rd_s (S2.sA 16 nm)) c) := l3
        obtain ⟨S3, hS3⟩ : ∃ S3, S3 = S2.sA 16 nm := ⟨_, rfl⟩
        rw [← hS3] at l3
        -- the model: the name
        obtain ⟨m', f2, k0, k1, k2, k3⟩ := l_nmM (E := E) (B := B) (S := S1) (T := T1) (c := c') (cl := mm_ev E e') (o3 := none) h1.1 (n := T1.A 103 0) (by omega) (by omega) 6 0 (G + 98) (T1.A 103) (by omega) (by omega) (fun i i0 i1 => by omega)
        rw [pp_sA_id] at k3
        have k3 : mm_r245_65 E (mm_ev E e') (G + 98) (mm_ad B 101) (mm_i (T1.A 103 0)) (mm_i 0) none (mm_hp B T1 c') = mm_r245_65 E (mm_ev E e') m' (mm_ad B 101) (mm_i (T1.A 103 0)) (mm_i 6) none (mm_hp B (T1.sA 103 f2) c') := k3
        obtain ⟨m, rfl⟩ : ∃ m, m' = m + 6 := ⟨m' - 6, by omega⟩
        obtain ⟨T2, hT2⟩ : ∃ T2, T2 = T1.sA 103 f2 := ⟨_, rfl⟩
        rw [← hT2] at k3
        have t3 : rd_T S3 T2 := by rw [hS3, hT2]; exact rd_T_c (S := S2) (T := T1) (fun _ _ => rfl) rfl (fun _ _ => rfl) rfl t2
        have t4 := rd_next t3
        have fS : rd_FS S1 (rd_s S3) := rd_FS_t (by
          rw [hS3, hS2]
          exact ⟨fun x k _ _ hx => by show (S1.sI 14 10 _).I x k = _; exact mm_gI_ne (by omega), fun x hx => by rw [mm_gA_ne (by omega), mm_gA_ne (by omega)]; rfl⟩) (rd_FS_s S3)
        have fT : rd_FT T1 (rd_m T2) := rd_FT_t (by rw [hT2]; exact rd_FT_A T1 f2) (rd_FT_m T2)
        have s3p : S1.I 1 3 ≤ (rd_s S3).I 1 3 := by
          have y := rd_H_p t3
          have y2 : S3.I 1 3 = S1.I 1 3 := by rw [hS3]; exact i2 1 3 (by omega)
          omega
        refine rd_ok_t fS fT s3p ?_
        rw [g3, mm_cI_ok, l3, mm_cI_ok, mm_br_eq (by omega) (by omega) (by omega) (by omega), if_neg (by omega), mm_e245_48]
        simp (disch := omega) only [mm_ptM]
        rw [h1.1.2.2.1, mm_br_t rfl, k3, mm_e245_65, mm_br_le (by omega) (by omega) (by omega) (by omega), if_pos (by omega), rd_pas t3.2.1 t3.2.2.1 (by omega), mm_cV_ok]
        obtain ⟨S4, hS4⟩ : ∃ S4, S4 = rd_s S3 := ⟨_, rfl⟩
        obtain ⟨T4, hT4⟩ : ∃ T4, T4 = rd_m T2 := ⟨_, rfl⟩
        rw [← hS4, ← hT4] at t4 ⊢
        have c4 : S4.I 14 10 = S1.I 14 10 + 1 := by rw [hS4, rd_sI (by omega), hS3]; exact c2
        have o0 : pp_mo 0 = 9 := by decide
        have o1 : pp_mo 1 = 999 := by decide
        have f0 : f2 0 = T1.A 103 0 := k2 0 (by omega)
        have j4 : ∀ x k, x ≠ 1 → ¬ (x = 14 ∧ k = 10) → S4.I x k = S1.I x k := fun x k hx hy => by
          rw [hS4, rd_sI (by omega), hS3]
          exact i2 x k hy
        have k15 : S4.A 15 = f' := by rw [hS4, hS3]; exact b2
        have k16 : S4.A 16 = nm := by rw [hS4, hS3]; rfl
        have kO : ∀ x, x = 17 ∨ x = 18 → S4.A x = S1.A x := fun x hx => by
          rw [hS4]
          show S3.A x = _
          rw [hS3, mm_gA_ne (by omega), a2 x (by omega)]
        have V4 : rd_V S4 := by
          refine rd_newV (S := S1) (f := T1.A 103) (l := rd_lt S1) (dy := 0) (co := 0) D1 (by omega) (by omega) (by omega) (fun k k0 k1 => rd_lt_r h1.1.1 k0) c4 (j4 14 11 (by omega) (by omega)) (fun w w0 w1 => ?_) (fun i hi => ?_) (fun k k0 k1 => ?_) (fun i hi => ?_) (kO 17 (by omega)) (kO 18 (by omega))
          · rw [k15, ← e1, g1 w w0 w1]
            unfold pp_t0 iv_nw
            by_cases r0 : w = 0
            · rw [if_pos r0, if_neg (by omega)]
            · rw [if_neg r0]
              by_cases r1 : w = 1
              · rw [if_pos r1, if_neg (by omega)]
              · rw [if_neg r1]
          · rw [k15]
            exact g2 i (by omega)
          · rw [k16, ← e1]
            exact l1 k k0 k1
          · rw [k16, l2 i (by omega), a2 16 (by omega)]
        obtain ⟨N, z⟩ := rd_told (E := E) (d := e) (B := B) (c := c) hE t4.1 (w := 0) (by omega) (by omega) (by omega) (by omega)
        rw [o0] at z
        rcases z with ⟨z1, z2, z3⟩ | ⟨v, v1, z1, z3⟩
        · have t5 := rd_tlT t4.1 0 N
          have y4 := t4.1.1.2.2.2.1
          refine rd_ok_t (rd_tlF S4 0 N) (rd_FT_m T4) (by omega) ?_
          rw [z1, mm_cI_ok, mm_br_eq (by omega) (by omega) (by omega) (by omega), if_neg (by omega), z3 e' c' (by omega), mm_cI_ok]
          simp (disch := omega) only [mm_ptM]
          obtain ⟨S5, hS5⟩ : ∃ S5, S5 = rd_tl S4 0 N := ⟨_, rfl⟩
          obtain ⟨T5, hT5⟩ : ∃ T5, T5 = rd_m T4 := ⟨_, rfl⟩
          rw [← hS5, ← hT5] at t5 ⊢
          have c5 : S5.I 14 10 = S1.I 14 10 + 1 := by rw [hS5]; unfold rd_tl; rw [rd_sI (by omega)]; exact c4
          have V5 : rd_V S5 := by
            have n15 : S5.A 15 = mm_u f' (S1.I 14 10 * 7 + 0) N := by
              rw [hS5]
              show mm_u (S4.A 15) ((S4.I 14 10 - 1) * 7 + 0) N = _
              rw [k15, c4, show S1.I 14 10 + 1 - 1 = S1.I 14 10 by omega]
            have n16 : S5.A 16 = nm := by rw [hS5]; exact k16
            have nO : ∀ x, x = 17 ∨ x = 18 → S5.A x = S1.A x := fun x hx => by
              rw [hS5]
              show (S4.sA 15 _).A x = _
              rw [mm_gA_ne (by omega), kO x hx]
            refine rd_newV (S := S1) (f := T1.A 103) (l := rd_lt S1) (dy := N) (co := 0) D1 (by omega) (by omega) (by omega) (fun k k0 k1 => rd_lt_r h1.1.1 k0) c5 ?_ (fun w w0 w1 => ?_) (fun i hi => ?_) (fun k k0 k1 => ?_) (fun i hi => ?_) (nO 17 (by omega)) (nO 18 (by omega))
            · rw [hS5]
              unfold rd_tl
              rw [rd_sI (by omega)]
              exact j4 14 11 (by omega) (by omega)
            · rw [n15, ← e1]
              have y := g1 w w0 w1
              by_cases r0 : w = 0
              · rw [r0, mm_u_eq]; rfl
              · rw [mm_u_ne (by omega), y]
                unfold pp_t0 iv_nw
                rw [if_neg r0]
                by_cases r1 : w = 1
                · rw [if_pos r1, if_neg (by omega)]
                · rw [if_neg r1]
            · rw [n15, mm_u_ne (by omega)]
              exact g2 i (by omega)
            · rw [n16, ← e1]
              exact l1 k k0 k1
            · rw [n16, l2 i (by omega), a2 16 (by omega)]
          obtain ⟨M, w⟩ := rd_told (E := E) (d := e) (B := B) (c := c) hE t5.1 (w := 1) (by omega) (by omega) (by omega) (by omega)
          rw [o1] at w
          rcases w with ⟨w1, w2, w3⟩ | ⟨v, v1, w1, w3⟩
          · have t6 := rd_tlT t5.1 1 M
            have y5 := t5.1.1.2.2.2.1
            obtain ⟨L, q1, q2, q3⟩ := m_lay (E := E) (d := e') (B := B) (S := rd_m T5) (c := c') (r := 103) (s := T1.A 103 0) (dy := N) (co := M) (by omega) rfl (by omega) (by omega)
            have r5 : (rd_m T5).A 103 = f2 := by rw [hT5, hT4, hT2]; rfl
            rw [r5] at q2
            rw [w1, mm_cI_ok, mm_br_eq (by omega) (by omega) (by omega) (by omega), if_neg (by omega), w3 e' c' (by omega), mm_cI_ok, q3, mm_cV_ok]
            simp (disch := omega) only [mm_hm]
            have L0 : L 0 = T1.A 103 0 := by rw [q2 0 (by omega)]; exact f0
            have a15 : (rd_tl S5 1 M).A 15 = mm_u (mm_u f' (S1.I 14 10 * 7 + 0) N) (S1.I 14 10 * 7 + 1) M := by
              have y : S5.A 15 = mm_u (S4.A 15) ((S4.I 14 10 - 1) * 7 + 0) N := by rw [hS5]; rfl
              have y2 : S4.A 15 = f' := by rw [hS4, hS3]; exact b2
              show mm_u (S5.A 15) ((S5.I 14 10 - 1) * 7 + 1) M = _
              rw [y, y2, c5, c4, show S1.I 14 10 + 1 - 1 = S1.I 14 10 by omega]
            have a16 : (rd_tl S5 1 M).A 16 = nm := by
              show S5.A 16 = _
              rw [hS5]
              show S4.A 16 = _
              rw [hS4, hS3]
              rfl
            have aO : ∀ x, x = 17 ∨ x = 18 → (rd_tl S5 1 M).A x = S1.A x := fun x hx => by
              show (S5.sA 15 _).A x = _
              rw [mm_gA_ne (by omega), hS5]
              show (S4.sA 15 _).A x = _
              rw [mm_gA_ne (by omega), hS4]
              show S3.A x = _
              rw [hS3, mm_gA_ne (by omega), a2 x (by omega)]
            have iO : ∀ x k, x ≠ 1 → ¬ (x = 14 ∧ k = 10) → (rd_tl S5 1 M).I x k = S1.I x k := fun x k hx hy => by
              unfold rd_tl
              rw [rd_sI (by omega)]
              show S5.I x k = _
              rw [hS5]
              unfold rd_tl
              rw [rd_sI (by omega)]
              show S4.I x k = _
              rw [hS4, rd_sI (by omega), hS3]
              exact i2 x k hy
            have i10 : (rd_tl S5 1 M).I 14 10 = S1.I 14 10 + 1 := by
              unfold rd_tl
              rw [rd_sI (by omega)]
              exact c5
            have hH : rd_H (rd_tl S5 1 M) ((rd_m T5).sA 103 L) := by
              refine ⟨rd_T_c (S := rd_tl S5 1 M) (T := rd_m T5) (fun _ _ => rfl) rfl (fun _ _ => rfl) rfl t6.1, by rw [iO 96 2 (by omega) (by omega)]; exact F1, ?_, ?_⟩
              · show 0 ≤ L 0 ∧ L 0 < 12
                omega
              · show rd_D _ (mm_u L 0 (L 0 + 1))
                refine rd_new (S := S1) (f := T1.A 103) (l := rd_lt S1) (dy := N) (co := M) D1 (by omega) (by omega) (by omega) (fun k k0 k1 => rd_lt_r h1.1.1 k0) i10 (iO 14 11 (by omega) (by omega)) (fun w w0 w1 => ?_) (fun i hi => ?_) (fun k k0 k1 => ?_) (fun i hi => ?_) (aO 17 (by omega)) (aO 18 (by omega)) ?_ (fun w w0 w1 => ?_) (fun k k0 k1' => ?_) (fun i i0 i1 i2' => ?_)
                · rw [a15, ← e1]
                  have y := g1 w w0 w1
                  rcases (by omega : w = 0 ∨ w = 1 ∨ (w ≠ 0 ∧ w ≠ 1)) with r | r | r
                  · rw [r, mm_u_ne (by omega), mm_u_eq]; rfl
                  · rw [r, mm_u_eq]; rfl
                  · rw [mm_u_ne (by omega), mm_u_ne (by omega), y]
                    unfold pp_t0 iv_nw
                    rw [if_neg r.1, if_neg r.2]
                · rw [a15, mm_u_ne (by omega), mm_u_ne (by omega)]
                  exact g2 i (by omega)
                · rw [a16, ← e1]
                  exact l1 k k0 k1
                · rw [a16, l2 i (by omega), a2 16 (by omega)]
                · rw [mm_u_eq, L0]
                · rw [mm_u_ne (by omega)]
                  obtain ⟨v0, v1, v2, v3, v4, v5, v6⟩ := iv_nw_v (dy := N) (co := M)
                  rcases (by omega : w = 0 ∨ w = 1 ∨ w = 2 ∨ w = 3 ∨ w = 4 ∨ w = 5 ∨ w = 6) with r | r | r | r | r | r | r
                  · rw [r, q1.1, v0]
                  · rw [r, q1.2.1, v1]
                  · rw [r, q1.2.2.1, v2]
                  · rw [r, q1.2.2.2.1, v3]
                  · rw [r, q1.2.2.2.2.1, v4]
                  · rw [r, q1.2.2.2.2.2.1, v5]
                  · rw [r, q1.2.2.2.2.2.2, v6]
                · rw [mm_u_ne (by omega), q2 _ (by omega)]
                  exact k1 k k0 k1'
                · rw [mm_u_ne i0, q2 i (by omega), k2 i (by omega)]
            refine rd_ok_t (rd_tlF S5 1 M) (rd_FT_t (rd_FT_m T5) (rd_FT_A _ L)) (by omega) ?_
            exact rd_p1 hE hH (by omega) (by omega) _ _ (by show _ = mm_i (3 + 7 * L 0); rw [L0])
          · obtain ⟨L, q1, q2, q3⟩ := m_lay (E := E) (d := e') (B := B) (S := rd_w T5 v) (c := c') (r := 103) (s := T1.A 103 0) (dy := N) (co := M) (by omega) rfl (by omega) (by omega)
            have x := rd_X_A (rd_wX V5 t5.1 v1.1 v1.2) L
            have b := rd_X_0 x
            rw [w1, mm_cI_ok, mm_br_t rfl, mm_bz0, w3 e' c' (by omega), mm_cI_ok, q3, mm_cV_ok, m_156b hE b.1 b.2 (by omega)]
            exact ⟨_, _, rd_FS_f S5 v, rd_FT_t (rd_FT_w T5 v) (rd_FT_t (rd_FT_A _ _) (rd_FT_A _ _)), rfl, Or.inr ⟨rfl, rd_X_A x _⟩⟩
        · have x0 := rd_wX V4 t4.1 v1.1 v1.2
          have b0 := rd_X_0 x0
          obtain ⟨L, q1, q2, q3⟩ := m_lay (E := E) (d := e') (B := B) (S := rd_w T4 v) (c := c') (r := 103) (s := T1.A 103 0) (dy := N) (co := 0) (by omega) rfl (by omega) (by omega)
          have x := rd_X_A x0 L
          have b := rd_X_0 x
          rw [z1, mm_cI_ok, mm_br_t rfl, mm_bz0, z3 e' c' (by omega), mm_cI_ok]
          simp (disch := omega) only [mm_ptM]
          rw [rd_rnb b0.1 b0.2 (by omega) (by omega), mm_cI_ok, q3, mm_cV_ok, m_156b hE b.1 b.2 (by omega)]
          exact ⟨_, _, rd_FS_f S4 v, rd_FT_t (rd_FT_w T4 v) (rd_FT_t (rd_FT_A _ _) (rd_FT_A _ _)), rfl, Or.inr ⟨rfl, rd_X_A x _⟩⟩
      · rw [mm_br_eq (by omega) (by omega) (by omega) (by omega), if_neg qf, mm_br_eq (by omega) (by omega) (by omega) (by omega), if_neg qf, c_refuse (by omega), mm_cI_ok, mm_bz0, mm_cI_ok, mm_br_t rfl, mm_bz0, rd_wrg h1.1.2.1 h1.1.2.2.1 (by omega), mm_cV_ok]
        exact bad 3 (by omega) (by omega)
    · rw [if_neg qn, if_neg qn, c_refuse (by omega), mm_cI_ok, mm_bz0, mm_cI_ok, mm_br_t rfl, mm_bz0, rd_wrg h1.1.2.1 h1.1.2.2.1 (by omega), mm_cV_ok]
      exact bad 1 (by omega) (by omega)
  · rw [if_neg q, if_pos (by omega)]
    have x := rd_wX ⟨_, hD.1, hD.2.1⟩ hT (v := 5) (by omega) (by omega)
    have b := rd_X_0 x
    have bm := b.1.1.2.2.2.2.2.2.2.2.2
    rw [c_refuse (by omega), mm_cI_ok, mm_bz0, rd_wrg hT.2.1 hT.2.2.1 (by omega), mm_cV_ok, rd_pasb b.1 b.2 (by omega), mm_cV_ok, rd_isNMb b.1 b.2 (by omega), mm_cI_ok, mm_br_t rfl, rd_wrgb b.1 b.2 (by omega), mm_cV_ok, mm_e245_48]
    simp (disch := omega) only [mm_ptM, mm_br_eq]
    rw [if_neg b.2]
    exact ⟨_, _, rd_FS_f S 5, rd_FT_w T 5, rfl, Or.inr ⟨rfl, x⟩⟩
end
