/-! ASK: tests -/
theorem aq_j37a {v w : Int32} : aq_j 37 v w = v &&& w := by
  unfold aq_j
  rw [if_neg (by decide), if_neg (by decide), if_neg (by decide), if_neg (by decide), if_neg (by decide), if_neg (by decide), if_pos rfl]
theorem aq_j38a {v w : Int32} : aq_j 38 v w = v ||| w := by
  unfold aq_j
  rw [if_neg (by decide), if_neg (by decide), if_neg (by decide), if_neg (by decide), if_neg (by decide), if_neg (by decide), if_neg (by decide)]
theorem aq_j37 {v w : Int32} (hv : v = mm_i 0 ∨ v = mm_i 1) (hw : w = mm_i 0 ∨ w = mm_i 1) : (aq_j 37 v w = if v = mm_i 0 then mm_i 0 else if w = mm_i 0 then mm_i 0 else mm_i 1) ∧ (aq_j 38 v w = if v = mm_i 0 then (if w = mm_i 0 then mm_i 0 else mm_i 1) else mm_i 1) := by
  rw [aq_j37a, aq_j38a]
  rcases hv with r | r <;> rcases hw with r' | r' <;> subst r <;> subst r' <;> decide
theorem aq_j7_01 {v w : Int32} (hv : v = mm_i 0 ∨ v = mm_i 1) (hw : w = mm_i 0 ∨ w = mm_i 1) : (aq_j 37 v w = mm_i 0 ∨ aq_j 37 v w = mm_i 1) ∧ (aq_j 38 v w = mm_i 0 ∨ aq_j 38 v w = mm_i 1) := by
  rw [(aq_j37 hv hw).1, (aq_j37 hv hw).2]
  rcases hv with r | r <;> rcases hw with r' | r' <;> subst r <;> subst r' <;> decide
theorem aq_brc {p : Prop} [Decidable p] {a b : mm_R} : mm_br p a b = if p then a else b := by
  by_cases q : p
  · rw [mm_br_t q, if_pos q]
  · rw [mm_br_f q, if_neg q]
section
variable {E : mm_E} {e f B : Nat} {c c' : mm_N} {k s p : Int} {W : Int → Int} {T0 : mm_S}
theorem aq_both {t1 : Int} {x2 : Int32} (hE : pp_OE E B) (hp : 0 ≤ p ∧ p ≤ 6) (he : 4 ≤ e) (hf : 4 ≤ f) (ht : t1 + 1 ≤ 3 * p + 2) (HP : ∀ S1 T1 : mm_S, T1.A = T0.A → aq_G S1 T1 k s p → aq_t E B c c' k s p W (3 * p + 2) S1 T1 (mm_ev E e 65 [.ref (mm_ad B 97), .int (mm_i p)] (mm_hp B S1 c)) (mm_ev E f 257 [.ref (mm_ad B 101)] (mm_hp B T1 c'))) : ∀ (j : Nat) (S T : mm_S) (v : Int32) (o : Option Value) (a0 kk : Int) (n m : Nat), T.A = T0.A → aq_G S T k s p → (v = mm_i 0 ∨ v = mm_i 1) → S.I 1 2 - S.I 1 3 ≤ j → 0 ≤ kk → 2 * kk ≤ S.I 1 3 → j < n → j < m → (k = 1 → aq_C E B s W (S.A 98) a0 (S.I 97 4) v t1) → ∃ (S' T' : mm_S) (v' : Int32), aq_FS S S' ∧ aq_FT T T' ∧ mm_r258_5 E (mm_ev E f) m (mm_ad B 101) v o (mm_hp B T c') = some (.inl (some (.int v')), mm_hp B T' c') ∧ (v' = mm_i 0 ∨ v' = mm_i 1) ∧ ((∃ (n' : Nat) (kk' : Int), n ≤ n' + j ∧ (0 ≤ kk' ∧ kk' < 200) ∧ mm_r64_21 E (mm_ev E e) n (mm_ad B 97) (mm_i p) x2 (mm_i kk) (mm_hp B S c) = mm_r64_21 E (mm_ev E e) n' (mm_ad B 97) (mm_i p) x2 (mm_i kk') (mm_hp B S' c) ∧ rd_is S' (pp_tx 54) = false ∧ aq_G S' T' k s p ∧ S'.I 97 4 - S.I 97 4 ≤ S'.I 1 3 - S.I 1 3 ∧ S.I 1 3 ≤ S'.I 1 3 ∧ (k = 1 → aq_C E B s W (S'.A 98) a0 (S'.I 97 4) v' t1)) ∨ (mm_r64_21 E (mm_ev E e) n (mm_ad B 97) (mm_i p) x2 (mm_i kk) (mm_hp B S c) = mm_oI 0 (mm_hp B S' c) ∧ aq_X S' T')) := by
  intro j
  induction j with
  | zero =>
    intro S T v o a0 kk n m hA h hv hj k0 k2 hn hm hC
    obtain ⟨m, rfl⟩ : ∃ q, m = q + 1 := ⟨m - 1, by omega⟩
    have h1 := h.1.1
    have h9 := h.1.2.2.2.2.2.2.2.2
    have kb := h1.2.2.2
    have n2 := h.2.2.2.2.2.1
    have sg : rd_is S (pp_tx 54) = false := by
      cases z : rd_is S (pp_tx 54)
      · rfl
      · have := aq_is1 z
        have := h9 (by omega)
        omega
    refine ⟨S, T, v, aq_FS_r S, aq_FT_r T, ?_, hv, Or.inl ⟨n, kk, by omega, by omega, rfl, sg, h, by omega, by omega, hC⟩⟩
    rw [mm_e258_5, rd_isW hE h.1 (by omega) (by omega), mm_cI_ok, mm_br_b1, if_neg (by rw [sg]; decide), aq_bz hv]
  | succ j ih =>
    intro S T v o a0 kk n m hA h hv hj k0 k2 hn hm hC
    obtain ⟨m, rfl⟩ : ∃ q, m = q + 1 := ⟨m - 1, by omega⟩
    have h1 := h.1.1
    have h9 := h.1.2.2.2.2.2.2.2.2
    have kb := h1.2.2.2
    have n2 := h.2.2.2.2.2.1
    have h97 := h.2.2.2.2.2.2.1
    have h98 := h.2.2.2.2.2.2.2
    by_cases sg : rd_is S (pp_tx 54) = true
    · obtain ⟨n, rfl⟩ : ∃ q, n = q + 1 := ⟨n - 1, by omega⟩
      have st := h9 (by rw [aq_is1 sg]; omega)
      obtain ⟨g1, g2, g3⟩ := aq_G_s h
      obtain ⟨S1, T1, w, f1, f2, f3, fw, f4⟩ := HP (rd_s S) (rd_m T) hA g1
      have fS := aq_FS_t (aq_FS_s S) f1
      have fT := aq_FT_t (aq_FT_m T) f2
      have cst : mm_r64_21 E (mm_ev E e) (n + 1) (mm_ad B 97) (mm_i p) x2 (mm_i kk) (mm_hp B S c) = mm_cI [] (mm_ev E e 65 [.ref (mm_ad B 97), .int (mm_i p)] (mm_hp B (rd_s S) c)) (fun v_11 h_10 => mm_br (v_11 = (mm_i 0)) (mm_bz (mm_i 0) (some (.inl (some (.int (mm_i 0))), h_10))) (mm_cI [] (mm_ev E e 69 [.ref (mm_ad B 97), .int (mm_i 37)] h_10) fun v_13 h_12 => mm_r64_21 E (mm_ev E e) n (mm_ad B 97) (mm_i p) x2 (mm_i (kk + 1)) h_12)) := by
        rw [mm_e64_21, mm_br_le (by omega) (by omega) (by omega) (by omega), if_neg (by omega)]
        simp (disch := omega) only [mm_ptQ]
        rw [aq_skip hE (by omega) (by omega) h1 aq_tx19.2.1 (aq_t32 54 (by omega) (by omega)), if_pos sg, mm_cI_ok, mm_br_eq (by omega) (by omega) (by omega) (by omega), if_neg (by omega)]
        simp (disch := omega) only [mm_hm]
      have mst : mm_r258_5 E (mm_ev E f) (m + 1) (mm_ad B 101) v o (mm_hp B T c') = mm_r258_5 E (mm_ev E f) m (mm_ad B 101) (aq_j 37 v w) (some (.int w)) (mm_hp B T1 c') := by
        rw [mm_e258_5, rd_isW hE h.1 (by omega) (by omega), mm_cI_ok, mm_br_b1, if_pos sg, rd_pas h.1.2.1 h.1.2.2.1 (by omega), mm_cV_ok, f3, mm_cI_ok, (aq_j37 hv fw).1, aq_brc, aq_brc]
        by_cases a1 : v = mm_i 0
        · rw [if_pos a1, if_pos a1]
        · rw [if_neg a1, if_neg a1]
          by_cases a2 : w = mm_i 0
          · rw [if_pos a2, if_pos a2]
          · rw [if_neg a2, if_neg a2]
      have jv := (aq_j7_01 hv fw).1
      rcases f4 with ⟨z1, z2, z3, z4, z5⟩ | ⟨z1, z2⟩
      · have y7 := z2.2.2.2.2.2.2.1
        have y8 := z2.2.2.2.2.2.1
        have yk := z2.1.1.2.2.2
        have s1 : S1.I 97 4 + 1 ≤ S1.I 1 3 := by omega
        have i12 : S1.I 1 2 = S.I 1 2 := fS.1 1 2 (by omega) (by omega)
        have G2 := aq_G_mk (v := 37) z2 s1
        have m12 : (aq_mk S1 37).I 1 2 = S.I 1 2 := by rw [aq_mkI (by omega)]; exact i12
        have m13 : (aq_mk S1 37).I 1 3 = S1.I 1 3 := aq_mkI (by omega)
        have m4 := aq_mk4 S1 37
        have hT1 : T1.A = T0.A := by rw [fT.2.1]; exact hA
        obtain ⟨S', T', v', u1, u2, u3, uv, u4⟩ := ih (aq_mk S1 37) T1 (aq_j 37 v w) (some (.int w)) a0 (kk + 1) n m hT1 G2 jv (by omega) (by omega) (by omega) (by omega) (by omega) (fun hk => by
          have c1 := hC hk
          have c2 := z5 hk
          rw [g3] at c2
          rw [m4]
          have c1' : aq_C E B s W ((aq_mk S1 37).A 98) a0 (S.I 97 4) v t1 := aq_C_c c1 (fun i i0 i1 => by
            rw [aq_mkA, mm_u_ne (by have := fS.2.2.2; omega)]
            exact fS.2.2.1 i i1)
          have c2' : aq_C E B s W ((aq_mk S1 37).A 98) (S.I 97 4) (S1.I 97 4) w (t1 + 1) := aq_C_t (aq_C_c c2 (fun i i0 i1 => by rw [aq_mkA, mm_u_ne (by omega)])) ht
          exact aq_C_j (op := 37) c1' c2' (by unfold aq_op; omega) (by rw [aq_mkA, mm_u_eq]) (by omega))
        refine ⟨S', T', v', aq_FS_t fS (aq_FS_t (aq_FS_mk S1 37) u1), aq_FT_t fT u2, by rw [mst, u3], uv, ?_⟩
        have cc : mm_r64_21 E (mm_ev E e) (n + 1) (mm_ad B 97) (mm_i p) x2 (mm_i kk) (mm_hp B S c) = mm_r64_21 E (mm_ev E e) n (mm_ad B 97) (mm_i p) x2 (mm_i (kk + 1)) (mm_hp B (aq_mk S1 37) c) := by
          rw [cst, z1, mm_cI_ok, mm_br_eq (by omega) (by omega) (by omega) (by omega), if_neg (by omega), c_mark (by omega) 37 y7 (by omega), mm_cI_ok]
        rcases u4 with ⟨n', kk', w1, w2, w3, w4, w5, w6, w7, w8⟩ | ⟨w1, w2⟩
        · exact Or.inl ⟨n', kk', by omega, w2, by rw [cc, w3], w4, w5, by omega, by omega, w8⟩
        · exact Or.inr ⟨by rw [cc, w1], w2⟩
      · have b := aq_X_0 z2
        obtain ⟨m, rfl⟩ : ∃ q, m = q + 1 := ⟨m - 1, by omega⟩
        refine ⟨S1, T1, aq_j 37 v w, fS, fT, by rw [mst, m_258x hE jv b.1 b.2 (by omega)], jv, Or.inr ⟨?_, z2⟩⟩
        rw [cst, z1, mm_cI_ok, mm_br_t rfl, mm_bz0]
    · have sg' : rd_is S (pp_tx 54) = false := by
        cases z : rd_is S (pp_tx 54)
        · rfl
        · exact absurd z sg
      refine ⟨S, T, v, aq_FS_r S, aq_FT_r T, ?_, hv, Or.inl ⟨n, kk, by omega, by omega, rfl, sg', h, by omega, by omega, hC⟩⟩
      rw [mm_e258_5, rd_isW hE h.1 (by omega) (by omega), mm_cI_ok, mm_br_b1, if_neg sg, aq_bz hv]
/-- facts joined by and: the class from mm_r64_2 on, the model's readBoth -/
theorem aq_bothw {t1 i : Int} {o3 : Option Value} (hE : pp_OE E B) (hp : 0 ≤ p ∧ p ≤ 6) (he : 4 ≤ e) (hf : 5 ≤ f) (ht : t1 + 1 ≤ 3 * p + 2) (HP : ∀ S1 T1 : mm_S, T1.A = T0.A → aq_G S1 T1 k s p → aq_t E B c c' k s p W (3 * p + 2) S1 T1 (mm_ev E e 65 [.ref (mm_ad B 97), .int (mm_i p)] (mm_hp B S1 c)) (mm_ev E (f - 1) 257 [.ref (mm_ad B 101)] (mm_hp B T1 c'))) (S T : mm_S) (n : Nat) (hA : T.A = T0.A) (h : aq_G S T k s p) (i0 : 0 ≤ i) (i1 : 2 * i ≤ S.I 1 3) (hn : 300 < n) : ∃ (S' T' : mm_S) (v : Int32), aq_FS S S' ∧ aq_FT T T' ∧ mm_ev E f 258 [.ref (mm_ad B 101)] (mm_hp B T c') = some (.inl (some (.int v)), mm_hp B T' c') ∧ (v = mm_i 0 ∨ v = mm_i 1) ∧ ((∃ (n' : Nat) (kk : Int), n ≤ n' + 250 ∧ (0 ≤ kk ∧ kk < 200) ∧ mm_r64_2 E (mm_ev E e) n (mm_ad B 97) (mm_i p) (mm_i i) o3 (mm_hp B S c) = mm_r64_21 E (mm_ev E e) n' (mm_ad B 97) (mm_i p) (mm_i i) (mm_i kk) (mm_hp B S' c) ∧ rd_is S' (pp_tx 54) = false ∧ aq_G S' T' k s p ∧ S'.I 97 4 - S.I 97 4 ≤ S'.I 1 3 - S.I 1 3 ∧ S.I 1 3 < S'.I 1 3 ∧ (k = 1 → aq_C E B s W (S'.A 98) (S.I 97 4) (S'.I 97 4) v t1)) ∨ (mm_r64_2 E (mm_ev E e) n (mm_ad B 97) (mm_i p) (mm_i i) o3 (mm_hp B S c) = mm_oI 0 (mm_hp B S' c) ∧ aq_X S' T')) := by
  obtain ⟨g, rfl⟩ : ∃ g, f = g + 1 := ⟨f - 1, by omega⟩
  rw [show g + 1 - 1 = g from rfl] at HP
  obtain ⟨n, rfl⟩ : ∃ q, n = q + 1 := ⟨n - 1, by omega⟩
  obtain ⟨G, hG, hm⟩ := mm_w258 E g B T c'
  have k5 := h.1.1.2.2.2
  have n2 := h.2.2.2.2.2.1
  have h97 := h.2.2.2.2.2.2.1
  obtain ⟨S1, T1, v, f1, f2, f3, fv, f4⟩ := HP S T hA h
  rw [hm, mm_e258_0, f3, mm_cI_ok, mm_e64_2, mm_br_le (by omega) (by omega) (by omega) (by omega), if_neg (by omega)]
  rcases f4 with ⟨z1, z2, z3, z4, z5⟩ | ⟨z1, z2⟩
  · have i12 : S1.I 1 2 = S.I 1 2 := f1.1 1 2 (by omega) (by omega)
    have y3 := z2.1.1.2.2.1
    obtain ⟨S', T', v', u1, u2, u3, uv, u4⟩ := aq_both (E := E) (e := e) (f := g) (B := B) (c := c) (c' := c') (k := k) (s := s) (p := p) (W := W) (T0 := T0) (t1 := t1) (x2 := mm_i i) hE hp he (by omega) ht HP 200 S1 T1 v none (S.I 97 4) 0 n (G + 99) (by rw [f2.2.1]; exact hA) z2 fv (by omega) (by omega) (by omega) (by omega) (by omega) (fun hk => aq_C_t (z5 hk) (by omega))
    rw [z1, mm_cI_ok, mm_br_eq (by omega) (by omega) (by omega) (by omega), if_neg (by omega), u3]
    refine ⟨S', T', v', aq_FS_t f1 u1, aq_FT_t f2 u2, rfl, uv, ?_⟩
    rcases u4 with ⟨n', kk, w1, w2, w3, w4, w5, w6, w7, w8⟩ | ⟨w1, w2⟩
    · exact Or.inl ⟨n', kk, by omega, w2, w3, w4, w5, by omega, by omega, w8⟩
    · exact Or.inr ⟨w1, w2⟩
  · have b := aq_X_0 z2
    rw [z1, mm_cI_ok, mm_br_t rfl, mm_bz0, m_258x hE fv b.1 b.2 (by omega)]
    exact ⟨S1, T1, v, f1, f2, rfl, fv, Or.inr ⟨rfl, z2⟩⟩
end
