/-! ASK: the loop of a sum -/
section
variable {E : mm_E} {e f B : Nat} {c c' : mm_N} {k s p : Int} {W : Int → Int} {T0 : mm_S}
theorem aq_suml {t1 : Int} (hp : 0 ≤ p ∧ p ≤ 6) (he : 4 ≤ e) (hf : 5 ≤ f) (ht : t1 + 2 ≤ 32 + 2 * p) (HP : ∀ S1 T1 : mm_S, T1.A = T0.A → aq_G S1 T1 k s p → aq_r E B c c' k s p W (32 + 2 * p) S1 T1 (mm_ev E e 67 [.ref (mm_ad B 97), .int (mm_i p)] (mm_hp B S1 c)) (mm_ev E (f - 1) 253 [.ref (mm_ad B 101)] (mm_hp B T1 c'))) : ∀ (j : Nat) (S T : mm_S) (v x2 x4 : Int32) (o2 o3 : Option Value) (a0 i : Int) (n m : Nat), T.A = T0.A → aq_G S T k s p → S.I 1 2 - S.I 1 3 ≤ j → 0 ≤ i → 2 * i + 1 ≤ S.I 1 3 → 400 * (j + 1) < n → 3 * (j + 1) < m → (k = 1 → aq_C E B s W (S.A 98) a0 (S.I 97 4) v t1) → ∃ (S' T' : mm_S) (v' : Int32), aq_FS S S' ∧ aq_FT T T' ∧ mm_r256_5 E (mm_ev E f) m (mm_ad B 101) v o2 o3 (mm_hp B T c') = some (.inl (some (.int v')), mm_hp B T' c') ∧ ((mm_r66_85 E (mm_ev E e) n (mm_ad B 97) (mm_i p) x2 (mm_i i) x4 (mm_hp B S c) = mm_oI 1 (mm_hp B S' c) ∧ aq_G S' T' k s p ∧ S'.I 97 4 - S.I 97 4 ≤ S'.I 1 3 - S.I 1 3 ∧ S.I 1 3 ≤ S'.I 1 3 ∧ (k = 1 → aq_C E B s W (S'.A 98) a0 (S'.I 97 4) v' t1)) ∨ (mm_r66_85 E (mm_ev E e) n (mm_ad B 97) (mm_i p) x2 (mm_i i) x4 (mm_hp B S c) = mm_oI 0 (mm_hp B S' c) ∧ aq_X S' T')) := by
  intro j
  induction j with
  | zero =>
    intro S T v x2 x4 o2 o3 a0 i n m hA h hj i0 i1 hn hm hC
    obtain ⟨m, rfl⟩ : ∃ q, m = q + 1 := ⟨m - 1, by omega⟩
    obtain ⟨n, rfl⟩ : ∃ q, n = q + 1 := ⟨n - 1, by omega⟩
    have h1 := h.1.1
    have h9 := h.1.2.2.2.2.2.2.2.2
    have kb := h1.2.2.2
    have sg : ∀ x, rd_sg S x = false := fun x => aq_sg2 (fun z => by have := h9 (by omega); omega)
    refine ⟨S, T, v, aq_FS_r S, aq_FT_r T, ?_, Or.inl ⟨?_, h, by omega, by omega, hC⟩⟩
    · rw [mm_e256_5, rd_isSM h.1 (by omega) (by omega), mm_cI_ok, mm_br_b1, if_neg (by rw [sg]; decide), rd_isSM h.1 (by omega) (by omega), mm_cI_ok, mm_br_b1, if_neg (by rw [sg]; decide)]
    · rw [mm_e66_85]
      simp (disch := omega) only [mm_ptQ]
      rw [rd_isS h1 (by omega) (by omega), mm_cI_ok, mm_br_b1, if_neg (by rw [sg]; decide)]
      simp (disch := omega) only [mm_ptQ]
      rw [rd_isS h1 (by omega) (by omega), mm_cI_ok, mm_br_b1, if_neg (by rw [sg]; decide), mm_br_t trivial, mm_bz1]
  | succ j ih =>
    intro S T v x2 x4 o2 o3 a0 i n m hA h hj i0 i1 hn hm hC
    obtain ⟨m, rfl⟩ : ∃ q, m = q + 3 := ⟨m - 3, by omega⟩
    obtain ⟨n, rfl⟩ : ∃ q, n = q + 1 := ⟨n - 1, by omega⟩
    have h1 := h.1.1
    have h9 := h.1.2.2.2.2.2.2.2.2
    have kb := h1.2.2.2
    have h97 := h.2.2.2.2.2.2.1
    have h98 := h.2.2.2.2.2.2.2
    have n2 := h.2.2.2.2.2.1
    obtain ⟨g1, g2, g3⟩ := aq_G_s h
    -- a sign: op is its mark, b what the model keeps of it
    have go : ∀ (op : Int) (b : Int32), (op = 31 ∧ b = mm_i 1 ∨ op = 32 ∧ b = mm_i 0) → S.I 1 5 = 3 → mm_r66_85 E (mm_ev E e) (n + 1) (mm_ad B 97) (mm_i p) x2 (mm_i i) x4 (mm_hp B S c) = mm_r66_4 E (mm_ev E e) n (mm_ad B 97) (mm_i p) (mm_i op) (mm_i (i + 1)) (some (.int x4)) (mm_hp B (rd_s S) c) → mm_r256_5 E (mm_ev E f) (m + 3) (mm_ad B 101) v o2 o3 (mm_hp B T c') = mm_cI [] (mm_ev E f 255 [.ref (mm_ad B 101)] (mm_hp B (rd_m T) c')) (fun w H => mm_r256_39 E (mm_ev E f) (m + 2) (mm_ad B 101) v b w H) → ∃ (S' T' : mm_S) (v' : Int32), aq_FS S S' ∧ aq_FT T T' ∧ mm_r256_5 E (mm_ev E f) (m + 3) (mm_ad B 101) v o2 o3 (mm_hp B T c') = some (.inl (some (.int v')), mm_hp B T' c') ∧ ((mm_r66_85 E (mm_ev E e) (n + 1) (mm_ad B 97) (mm_i p) x2 (mm_i i) x4 (mm_hp B S c) = mm_oI 1 (mm_hp B S' c) ∧ aq_G S' T' k s p ∧ S'.I 97 4 - S.I 97 4 ≤ S'.I 1 3 - S.I 1 3 ∧ S.I 1 3 ≤ S'.I 1 3 ∧ (k = 1 → aq_C E B s W (S'.A 98) a0 (S'.I 97 4) v' t1)) ∨ (mm_r66_85 E (mm_ev E e) (n + 1) (mm_ad B 97) (mm_i p) x2 (mm_i i) x4 (mm_hp B S c) = mm_oI 0 (mm_hp B S' c) ∧ aq_X S' T')) := fun op b ho s3 hcl hmo => by
      have st := h9 (by omega)
      have hop : op = 31 ∨ op = 32 := by omega
      obtain ⟨S1, T1, w, f1, f2, f3, f4⟩ := aq_product (E := E) (e := e) (f := f) (B := B) (c := c) (c' := c') (k := k) (s := s) (p := p) (W := W) (T0 := T0) (t1 := t1 + 1) (i := i + 1) (x2 := mm_i op) (o4 := some (.int x4)) hp he hf (by omega) HP (rd_s S) (rd_m T) n hA g1 (by omega) (by omega) (by omega)
      have fS := aq_FS_t (aq_FS_s S) f1
      have fT := aq_FT_t (aq_FT_m T) f2
      have m39 : ∀ U, mm_r256_39 E (mm_ev E f) (m + 2) (mm_ad B 101) v b w (mm_hp B U c') = mm_r256_5 E (mm_ev E f) (m + 1) (mm_ad B 101) (aq_j op v w) (some (.int b)) (some (.int w)) (mm_hp B U c') := fun U => by
        rw [mm_e256_39]
        rcases ho with ⟨r1, r2⟩ | ⟨r1, r2⟩
        · rw [r1, r2, mm_br_eq (by omega) (by omega) (by omega) (by omega), if_neg (by omega)]
          rfl
        · rw [r1, r2, mm_br_t rfl]
          rfl
      rw [hcl, hmo, f3, mm_cI_ok, m39]
      rcases f4 with ⟨n', kk, w1, w2, w3, w4, w5, w6, w7, w8⟩ | ⟨w1, w2⟩
      · obtain ⟨n', rfl⟩ : ∃ q, n' = q + 1 := ⟨n' - 1, by omega⟩
        have y7 := w5.2.2.2.2.2.2.1
        have yk := w5.1.1.2.2.2
        have y8 := w5.2.2.2.2.2.1
        have G2 := aq_G_mk (v := op) w5 (by omega)
        have i12 : S1.I 1 2 = S.I 1 2 := fS.1 1 2 (by omega) (by omega)
        have m12 : (aq_mk S1 op).I 1 2 = S.I 1 2 := by rw [aq_mkI (by omega)]; exact i12
        have m13 : (aq_mk S1 op).I 1 3 = S1.I 1 3 := aq_mkI (by omega)
        have m4 := aq_mk4 S1 op
        have cc : mm_r66_4 E (mm_ev E e) n (mm_ad B 97) (mm_i p) (mm_i op) (mm_i (i + 1)) (some (.int x4)) (mm_hp B (rd_s S) c) = mm_r66_85 E (mm_ev E e) n' (mm_ad B 97) (mm_i p) (mm_i op) (mm_i (i + 1)) (mm_i kk) (mm_hp B (aq_mk S1 op) c) := by
          rw [w3, mm_e66_24, mm_br_le (by omega) (by omega) (by omega) (by omega), if_neg (by omega)]
          simp (disch := omega) only [mm_ptQ]
          rw [rd_isS w5.1.1 (by omega) (by omega), mm_cI_ok, mm_br_b1, if_neg (by rw [w4]; decide), mm_br_eq (by omega) (by omega) (by omega) (by omega), if_neg (by omega), c_mark (by omega) op y7 (by omega), mm_cI_ok]
        obtain ⟨S', T', v', u1, u2, u3, u4⟩ := ih (aq_mk S1 op) T1 (aq_j op v w) (mm_i op) (mm_i kk) (some (.int b)) (some (.int w)) a0 (i + 1) n' (m + 1) (by rw [fT.2.1]; exact hA) G2 (by omega) (by omega) (by omega) (by omega) (by omega) (fun hk => by
          have c1 := hC hk
          have c2 := w8 hk
          rw [g3] at c2
          rw [m4]
          have c1' : aq_C E B s W ((aq_mk S1 op).A 98) a0 (S.I 97 4) v t1 := aq_C_c c1 (fun i i0 i1 => by
            rw [aq_mkA, mm_u_ne (by have := fS.2.2.2; omega)]
            exact fS.2.2.1 i i1)
          have c2' : aq_C E B s W ((aq_mk S1 op).A 98) (S.I 97 4) (S1.I 97 4) w (t1 + 1) := aq_C_c c2 (fun i i0 i1 => by rw [aq_mkA, mm_u_ne (by omega)])
          exact aq_C_j (op := op) c1' c2' (by unfold aq_op; omega) (by rw [aq_mkA, mm_u_eq]) (by omega))
        rw [cc]
        refine ⟨S', T', v', aq_FS_t fS (aq_FS_t (aq_FS_mk S1 op) u1), aq_FT_t fT u2, u3, ?_⟩
        rcases u4 with ⟨z1, z2, z3, z4, z5⟩ | ⟨z1, z2⟩
        · exact Or.inl ⟨z1, z2, by omega, by omega, z5⟩
        · exact Or.inr ⟨z1, z2⟩
      · have b' := aq_X_0 w2
        rw [w1, m_256x b'.1 b'.2 (by omega)]
        exact ⟨S1, T1, _, fS, fT, rfl, Or.inr ⟨rfl, w2⟩⟩
    by_cases q1 : rd_sg S 43 = true
    · refine go 31 (mm_i 1) (Or.inl ⟨rfl, rfl⟩) (aq_sg3 q1) ?_ ?_
      · rw [mm_e66_85]
        simp (disch := omega) only [mm_ptQ]
        rw [rd_isS h1 (by omega) (by omega), mm_cI_ok, mm_br_b1, if_pos q1, mm_br_eq (by omega) (by omega) (by omega) (by omega), if_neg (by omega)]
        simp (disch := omega) only [mm_ptQ]
        rw [rd_adv h1 (by omega), mm_cV_ok]
        simp (disch := omega) only [mm_hm]
      · rw [mm_e256_5, rd_isSM h.1 (by omega) (by omega), mm_cI_ok, mm_br_b1, if_pos q1, rd_isSM h.1 (by omega) (by omega), mm_cI_ok, q1, rd_pas h.1.2.1 h.1.2.2.1 (by omega), mm_cV_ok]
        rfl
    · by_cases q2 : rd_sg S 45 = true
      · have q1' : rd_sg S 43 = false := by
          cases z : rd_sg S 43
          · rfl
          · exact absurd z q1
        refine go 32 (mm_i 0) (Or.inr ⟨rfl, rfl⟩) (aq_sg3 q2) ?_ ?_
        · rw [mm_e66_85]
          simp (disch := omega) only [mm_ptQ]
          rw [rd_isS h1 (by omega) (by omega), mm_cI_ok, mm_br_b1, if_neg q1]
          simp (disch := omega) only [mm_ptQ]
          rw [rd_isS h1 (by omega) (by omega), mm_cI_ok, mm_br_b1, if_pos q2, mm_br_eq (by omega) (by omega) (by omega) (by omega), if_neg (by omega)]
          simp (disch := omega) only [mm_ptQ]
          rw [rd_adv h1 (by omega), mm_cV_ok]
          simp (disch := omega) only [mm_hm]
        · rw [mm_e256_5, rd_isSM h.1 (by omega) (by omega), mm_cI_ok, mm_br_b1, if_neg q1, rd_isSM h.1 (by omega) (by omega), mm_cI_ok, mm_br_b1, if_pos q2, rd_isSM h.1 (by omega) (by omega), mm_cI_ok, q1', rd_pas h.1.2.1 h.1.2.2.1 (by omega), mm_cV_ok]
          rfl
      · refine ⟨S, T, v, aq_FS_r S, aq_FT_r T, ?_, Or.inl ⟨?_, h, by omega, by omega, hC⟩⟩
        · rw [mm_e256_5, rd_isSM h.1 (by omega) (by omega), mm_cI_ok, mm_br_b1, if_neg q1, rd_isSM h.1 (by omega) (by omega), mm_cI_ok, mm_br_b1, if_neg q2]
        · rw [mm_e66_85]
          simp (disch := omega) only [mm_ptQ]
          rw [rd_isS h1 (by omega) (by omega), mm_cI_ok, mm_br_b1, if_neg q1]
          simp (disch := omega) only [mm_ptQ]
          rw [rd_isS h1 (by omega) (by omega), mm_cI_ok, mm_br_b1, if_neg q2, mm_br_t trivial, mm_bz1]
end
