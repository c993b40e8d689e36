/-! ASK: a product -/
section
variable {E : mm_E} {e f B : Nat} {c c' : mm_N} {k s p : Int} {W : Int → Int} {T0 : mm_S}
theorem aq_prod {t1 : Int} {x2 x3 : Int32} (hp : 0 ≤ p ∧ p ≤ 6) (he : 4 ≤ e) (hf : 4 ≤ f) (ht : t1 + 1 ≤ 32 + 2 * p) (HP : ∀ S1 T1 : mm_S, T1.A = T0.A → aq_G S1 T1 k s p → aq_r E B c c' k s p W (32 + 2 * p) S1 T1 (mm_ev E e 67 [.ref (mm_ad B 97), .int (mm_i p)] (mm_hp B S1 c)) (mm_ev E f 253 [.ref (mm_ad B 101)] (mm_hp B T1 c'))) : ∀ (j : Nat) (S T : mm_S) (v : Int32) (a0 kk : Int) (n m : Nat), T.A = T0.A → aq_G S T k s p → S.I 1 2 - S.I 1 3 ≤ j → 0 ≤ kk → 2 * kk ≤ S.I 1 3 → j < n → j < m → (k = 1 → aq_C E B s W (S.A 98) a0 (S.I 97 4) v t1) → ∃ (S' T' : mm_S) (v' : Int32), aq_FS S S' ∧ aq_FT T T' ∧ mm_r255_5 E (mm_ev E f) m (mm_ad B 101) v (mm_hp B T c') = some (.inl (some (.int v')), mm_hp B T' c') ∧ ((∃ (n' : Nat) (kk' : Int), n ≤ n' + j ∧ (0 ≤ kk' ∧ kk' < 200) ∧ mm_r66_24 E (mm_ev E e) n (mm_ad B 97) (mm_i p) x2 x3 (mm_i kk) (mm_hp B S c) = mm_r66_24 E (mm_ev E e) n' (mm_ad B 97) (mm_i p) x2 x3 (mm_i kk') (mm_hp B S' c) ∧ rd_sg S' 42 = false ∧ aq_G S' T' k s p ∧ S'.I 97 4 - S.I 97 4 ≤ S'.I 1 3 - S.I 1 3 ∧ S.I 1 3 ≤ S'.I 1 3 ∧ (k = 1 → aq_C E B s W (S'.A 98) a0 (S'.I 97 4) v' t1)) ∨ (mm_r66_24 E (mm_ev E e) n (mm_ad B 97) (mm_i p) x2 x3 (mm_i kk) (mm_hp B S c) = mm_oI 0 (mm_hp B S' c) ∧ aq_X S' T')) := by
  intro j
  induction j with
  | zero =>
    intro S T v a0 kk n m hA h hj k0 k2 hn hm hC
    obtain ⟨m, rfl⟩ : ∃ q, m = q + 1 := ⟨m - 1, by omega⟩
    have h1 := h.1.1
    have h9 := h.1.2.2.2.2.2.2.2.2
    have kb := h1.2.2.2
    have n2 := h.2.2.2.2.2.1
    have sg : rd_sg S 42 = false := aq_sg2 (fun z => by have := h9 (by omega); omega)
    refine ⟨S, T, v, aq_FS_r S, aq_FT_r T, ?_, Or.inl ⟨n, kk, by omega, by omega, rfl, sg, h, by omega, by omega, hC⟩⟩
    rw [mm_e255_5, rd_isSM h.1 (by omega) (by omega), mm_cI_ok, mm_br_b1, if_neg (by rw [sg]; decide)]
  | succ j ih =>
    intro S T v a0 kk n m hA h hj k0 k2 hn hm hC
    obtain ⟨m, rfl⟩ : ∃ q, m = q + 1 := ⟨m - 1, by omega⟩
    have h1 := h.1.1
    have h9 := h.1.2.2.2.2.2.2.2.2
    have kb := h1.2.2.2
    have n2 := h.2.2.2.2.2.1
    have h97 := h.2.2.2.2.2.2.1
    have h98 := h.2.2.2.2.2.2.2
    by_cases sg : rd_sg S 42 = true
    · obtain ⟨n, rfl⟩ : ∃ q, n = q + 1 := ⟨n - 1, by omega⟩
      have st := h9 (by rw [aq_sg3 sg]; omega)
      obtain ⟨g1, g2, g3⟩ := aq_G_s h
      obtain ⟨S1, T1, w, f1, f2, f3, f4⟩ := HP (rd_s S) (rd_m T) hA g1
      have fS := aq_FS_t (aq_FS_s S) f1
      have fT := aq_FT_t (aq_FT_m T) f2
      have cst : mm_r66_24 E (mm_ev E e) (n + 1) (mm_ad B 97) (mm_i p) x2 x3 (mm_i kk) (mm_hp B S c) = mm_cI [] (mm_ev E e 67 [.ref (mm_ad B 97), .int (mm_i p)] (mm_hp B (rd_s S) c)) (fun v_11 h_10 => mm_br (v_11 = (mm_i 0)) (mm_bz (mm_i 0) (some (.inl (some (.int (mm_i 0))), h_10))) (mm_cI [] (mm_ev E e 69 [.ref (mm_ad B 97), .int (mm_i 30)] h_10) fun v_13 h_12 => mm_r66_24 E (mm_ev E e) n (mm_ad B 97) (mm_i p) x2 x3 (mm_i (kk + 1)) h_12)) := by
        rw [mm_e66_24, mm_br_le (by omega) (by omega) (by omega) (by omega), if_neg (by omega)]
        simp (disch := omega) only [mm_ptQ]
        rw [rd_isS h1 (by omega) (by omega), mm_cI_ok, mm_br_b1, if_pos sg]
        simp (disch := omega) only [mm_ptQ]
        rw [rd_adv h1 (by omega), mm_cV_ok]
        simp (disch := omega) only [mm_hm]
      have mst : mm_r255_5 E (mm_ev E f) (m + 1) (mm_ad B 101) v (mm_hp B T c') = mm_r255_5 E (mm_ev E f) m (mm_ad B 101) (v * w) (mm_hp B T1 c') := by
        rw [mm_e255_5, rd_isSM h.1 (by omega) (by omega), mm_cI_ok, mm_br_b1, if_pos sg, rd_pas h.1.2.1 h.1.2.2.1 (by omega), mm_cV_ok, f3, mm_cI_ok]
      rcases f4 with ⟨z1, z2, z3, z4, z5⟩ | ⟨z1, z2⟩
      · have y7 := z2.2.2.2.2.2.2.1
        have y8 := z2.2.2.2.2.2.1
        have yk := z2.1.1.2.2.2
        have s1 : S1.I 97 4 + 1 ≤ S1.I 1 3 := by omega
        have i12 : S1.I 1 2 = S.I 1 2 := fS.1 1 2 (by omega) (by omega)
        have G2 := aq_G_mk (v := 30) z2 s1
        have m12 : (aq_mk S1 30).I 1 2 = S.I 1 2 := by rw [aq_mkI (by omega)]; exact i12
        have m13 : (aq_mk S1 30).I 1 3 = S1.I 1 3 := aq_mkI (by omega)
        have m4 := aq_mk4 S1 30
        have hT1 : T1.A = T0.A := by rw [fT.2.1]; exact hA
        obtain ⟨S', T', v', u1, u2, u3, u4⟩ := ih (aq_mk S1 30) T1 (v * w) a0 (kk + 1) n m hT1 G2 (by omega) (by omega) (by omega) (by omega) (by omega) (fun hk => by
          have c1 := hC hk
          have c2 := z5 hk
          rw [g3] at c2
          rw [m4]
          have c1' : aq_C E B s W ((aq_mk S1 30).A 98) a0 (S.I 97 4) v t1 := aq_C_c c1 (fun i i0 i1 => by
            rw [aq_mkA, mm_u_ne (by have := fS.2.2.2; omega)]
            exact fS.2.2.1 i i1)
          have c2' : aq_C E B s W ((aq_mk S1 30).A 98) (S.I 97 4) (S1.I 97 4) w (t1 + 1) := aq_C_t (aq_C_c c2 (fun i i0 i1 => by rw [aq_mkA, mm_u_ne (by omega)])) ht
          have c3 := aq_C_j (op := 30) c1' c2' (Or.inl rfl) (by rw [aq_mkA, mm_u_eq]) (by omega)
          exact c3)
        refine ⟨S', T', v', aq_FS_t fS (aq_FS_t (aq_FS_mk S1 30) u1), aq_FT_t fT u2, by rw [mst, u3], ?_⟩
        have cc : mm_r66_24 E (mm_ev E e) (n + 1) (mm_ad B 97) (mm_i p) x2 x3 (mm_i kk) (mm_hp B S c) = mm_r66_24 E (mm_ev E e) n (mm_ad B 97) (mm_i p) x2 x3 (mm_i (kk + 1)) (mm_hp B (aq_mk S1 30) c) := by
          rw [cst, z1, mm_cI_ok, mm_br_eq (by omega) (by omega) (by omega) (by omega), if_neg (by omega), c_mark (by omega) 30 y7 (by omega), mm_cI_ok]
        rcases u4 with ⟨n', kk', w1, w2, w3, w4, w5, w6, w7, w8⟩ | ⟨w1, w2⟩
        · exact Or.inl ⟨n', kk', by omega, w2, by rw [cc, w3], w4, w5, by omega, by omega, w8⟩
        · exact Or.inr ⟨by rw [cc, w1], w2⟩
      · have b := aq_X_0 z2
        obtain ⟨m, rfl⟩ : ∃ q, m = q + 1 := ⟨m - 1, by omega⟩
        refine ⟨S1, T1, v * w, fS, fT, by rw [mst, m_255x b.1 b.2 (by omega)], Or.inr ⟨?_, z2⟩⟩
        rw [cst, z1, mm_cI_ok, mm_br_t rfl, mm_bz0]
    · have sg' : rd_sg S 42 = false := by
        cases z : rd_sg S 42
        · rfl
        · exact absurd z sg
      refine ⟨S, T, v, aq_FS_r S, aq_FT_r T, ?_, Or.inl ⟨n, kk, by omega, by omega, rfl, sg', h, by omega, by omega, hC⟩⟩
      rw [mm_e255_5, rd_isSM h.1 (by omega) (by omega), mm_cI_ok, mm_br_b1, if_neg sg]
end
