/-! ASK: the loop of a test, a test whole -/
section
variable {E : mm_E} {e f B : Nat} {c c' : mm_N} {k s p : Int} {W : Int → Int} {T0 : mm_S}
theorem aq_testl {t1 : Int} (hE : pp_OE E B) (hp : 0 ≤ p ∧ p ≤ 6) (he : 4 ≤ e) (hf : 5 ≤ f) (ht : t1 + 2 ≤ 3 * p + 2) (HP : ∀ S1 T1 : mm_S, T1.A = T0.A → aq_G S1 T1 k s p → aq_t E B c c' k s p W (3 * p + 2) S1 T1 (mm_ev E e 65 [.ref (mm_ad B 97), .int (mm_i p)] (mm_hp B S1 c)) (mm_ev E (f - 1) 257 [.ref (mm_ad B 101)] (mm_hp B T1 c'))) : ∀ (j : Nat) (S T : mm_S) (v x3 : Int32) (o : Option Value) (a0 i : Int) (n m : Nat), T.A = T0.A → aq_G S T k s p → (v = mm_i 0 ∨ v = mm_i 1) → S.I 1 2 - S.I 1 3 ≤ j → 0 ≤ i → 2 * i + 1 ≤ S.I 1 3 → 400 * (j + 1) < n → 3 * (j + 1) < m → (k = 1 → aq_C E B s W (S.A 98) a0 (S.I 97 4) v t1) → ∃ (S' T' : mm_S) (v' : Int32), aq_FS S S' ∧ aq_FT T T' ∧ mm_r259_5 E (mm_ev E f) m (mm_ad B 101) v o (mm_hp B T c') = some (.inl (some (.int v')), mm_hp B T' c') ∧ (v' = mm_i 0 ∨ v' = mm_i 1) ∧ ((mm_r64_74 E (mm_ev E e) n (mm_ad B 97) (mm_i p) (mm_i i) x3 (mm_hp B S c) = mm_oI 1 (mm_hp B S' c) ∧ aq_G S' T' k s p ∧ S'.I 97 4 - S.I 97 4 ≤ S'.I 1 3 - S.I 1 3 ∧ S.I 1 3 ≤ S'.I 1 3 ∧ (k = 1 → aq_C E B s W (S'.A 98) a0 (S'.I 97 4) v' t1)) ∨ (mm_r64_74 E (mm_ev E e) n (mm_ad B 97) (mm_i p) (mm_i i) x3 (mm_hp B S c) = mm_oI 0 (mm_hp B S' c) ∧ aq_X S' T')) := by
  intro j
  induction j with
  | zero =>
    intro S T v x3 o a0 i n m hA h hv hj i0 i1 hn hm hC
    obtain ⟨m, rfl⟩ : ∃ q, m = q + 1 := ⟨m - 1, by omega⟩
    obtain ⟨n, rfl⟩ : ∃ q, n = q + 1 := ⟨n - 1, by omega⟩
    have h1 := h.1.1
    have h9 := h.1.2.2.2.2.2.2.2.2
    have kb := h1.2.2.2
    have sg : rd_is S (pp_tx 55) = false := by
      cases z : rd_is S (pp_tx 55)
      · rfl
      · have := aq_is1 z
        have := h9 (by omega)
        omega
    refine ⟨S, T, v, aq_FS_r S, aq_FT_r T, ?_, hv, Or.inl ⟨?_, h, by omega, by omega, hC⟩⟩
    · rw [mm_e259_5, rd_isW hE h.1 (by omega) (by omega), mm_cI_ok, mm_br_b1, if_neg (by rw [sg]; decide), aq_bz hv]
    · rw [mm_e64_74]
      simp (disch := omega) only [mm_ptQ]
      rw [aq_skip hE (by omega) (by omega) h1 aq_tx19.2.2 (aq_t32 55 (by omega) (by omega)), if_neg (by rw [sg]; decide), mm_cI_ok, mm_br_t rfl, mm_bz1]
  | succ j ih =>
    intro S T v x3 o a0 i n m hA h hv hj i0 i1 hn hm hC
    obtain ⟨m, rfl⟩ : ∃ q, m = q + 3 := ⟨m - 3, by omega⟩
    obtain ⟨n, rfl⟩ : ∃ q, n = q + 1 := ⟨n - 1, by omega⟩
    have h1 := h.1.1
    have h9 := h.1.2.2.2.2.2.2.2.2
    have kb := h1.2.2.2
    have h97 := h.2.2.2.2.2.2.1
    have h98 := h.2.2.2.2.2.2.2
    have n2 := h.2.2.2.2.2.1
    obtain ⟨g1, g2, g3⟩ := aq_G_s h
    by_cases sg : rd_is S (pp_tx 55) = true
    · have st := h9 (by rw [aq_is1 sg]; omega)
      obtain ⟨S1, T1, w, f1, f2, f3, fw, f4⟩ := aq_bothw (E := E) (e := e) (f := f) (B := B) (c := c) (c' := c') (k := k) (s := s) (p := p) (W := W) (T0 := T0) (t1 := t1 + 1) (i := i + 1) (o3 := some (.int x3)) hE hp he hf (by omega) HP (rd_s S) (rd_m T) n hA g1 (by omega) (by omega) (by omega)
      have fS := aq_FS_t (aq_FS_s S) f1
      have fT := aq_FT_t (aq_FT_m T) f2
      have jv := (aq_j7_01 hv fw).2
      have hcl : mm_r64_74 E (mm_ev E e) (n + 1) (mm_ad B 97) (mm_i p) (mm_i i) x3 (mm_hp B S c) = mm_r64_2 E (mm_ev E e) n (mm_ad B 97) (mm_i p) (mm_i (i + 1)) (some (.int x3)) (mm_hp B (rd_s S) c) := by
        rw [mm_e64_74]
        simp (disch := omega) only [mm_ptQ]
        rw [aq_skip hE (by omega) (by omega) h1 aq_tx19.2.2 (aq_t32 55 (by omega) (by omega)), if_pos sg, mm_cI_ok, mm_br_eq (by omega) (by omega) (by omega) (by omega), if_neg (by omega)]
        simp (disch := omega) only [mm_hm]
      have mst : mm_r259_5 E (mm_ev E f) (m + 3) (mm_ad B 101) v o (mm_hp B T c') = mm_r259_5 E (mm_ev E f) (m + 2) (mm_ad B 101) (aq_j 38 v w) (some (.int w)) (mm_hp B T1 c') := by
        rw [mm_e259_5, rd_isW hE h.1 (by omega) (by omega), mm_cI_ok, mm_br_b1, if_pos sg, rd_pas h.1.2.1 h.1.2.2.1 (by omega), mm_cV_ok, f3, mm_cI_ok, (aq_j37 hv fw).2, aq_brc, aq_brc]
        by_cases a1 : v = mm_i 0
        · rw [if_pos a1, if_pos a1]
          by_cases a2 : w = mm_i 0
          · rw [if_pos a2, if_pos a2]
          · rw [if_neg a2, if_neg a2]
        · rw [if_neg a1, if_neg a1]
      rw [hcl, mst]
      rcases f4 with ⟨n', kk, w1, w2, w3, w4, w5, w6, w7, w8⟩ | ⟨w1, w2⟩
      · obtain ⟨n', rfl⟩ : ∃ q, n' = q + 1 := ⟨n' - 1, by omega⟩
        have y7 := w5.2.2.2.2.2.2.1
        have yk := w5.1.1.2.2.2
        have y8 := w5.2.2.2.2.2.1
        have G2 := aq_G_mk (v := 38) w5 (by omega)
        have i12 : S1.I 1 2 = S.I 1 2 := fS.1 1 2 (by omega) (by omega)
        have m12 : (aq_mk S1 38).I 1 2 = S.I 1 2 := by rw [aq_mkI (by omega)]; exact i12
        have m13 : (aq_mk S1 38).I 1 3 = S1.I 1 3 := aq_mkI (by omega)
        have m4 := aq_mk4 S1 38
        have cc : mm_r64_2 E (mm_ev E e) n (mm_ad B 97) (mm_i p) (mm_i (i + 1)) (some (.int x3)) (mm_hp B (rd_s S) c) = mm_r64_74 E (mm_ev E e) n' (mm_ad B 97) (mm_i p) (mm_i (i + 1)) (mm_i kk) (mm_hp B (aq_mk S1 38) c) := by
          rw [w3, mm_e64_21, mm_br_le (by omega) (by omega) (by omega) (by omega), if_neg (by omega)]
          simp (disch := omega) only [mm_ptQ]
          rw [aq_skip hE (by omega) (by omega) w5.1.1 aq_tx19.2.1 (aq_t32 54 (by omega) (by omega)), if_neg (by rw [w4]; decide), mm_cI_ok, mm_br_t rfl, mm_br_le (by omega) (by omega) (by omega) (by omega), if_neg (by omega), c_mark (by omega) 38 y7 (by omega), mm_cI_ok]
        obtain ⟨S', T', v', u1, u2, u3, uv, u4⟩ := ih (aq_mk S1 38) T1 (aq_j 38 v w) (mm_i kk) (some (.int w)) a0 (i + 1) n' (m + 2) (by rw [fT.2.1]; exact hA) G2 jv (by omega) (by omega) (by omega) (by omega) (by omega) (fun hk => by
          have c1 := hC hk
          have c2 := w8 hk
          rw [g3] at c2
          rw [m4]
          have c1' : aq_C E B s W ((aq_mk S1 38).A 98) a0 (S.I 97 4) v t1 := aq_C_c c1 (fun i i0 i1 => by
            rw [aq_mkA, mm_u_ne (by have := fS.2.2.2; omega)]
            exact fS.2.2.1 i i1)
          have c2' : aq_C E B s W ((aq_mk S1 38).A 98) (S.I 97 4) (S1.I 97 4) w (t1 + 1) := aq_C_c c2 (fun i i0 i1 => by rw [aq_mkA, mm_u_ne (by omega)])
          exact aq_C_j (op := 38) c1' c2' (by unfold aq_op; omega) (by rw [aq_mkA, mm_u_eq]) (by omega))
        rw [cc]
        refine ⟨S', T', v', aq_FS_t fS (aq_FS_t (aq_FS_mk S1 38) u1), aq_FT_t fT u2, u3, uv, ?_⟩
        rcases u4 with ⟨z1, z2, z3, z4, z5⟩ | ⟨z1, z2⟩
        · exact Or.inl ⟨z1, z2, by omega, by omega, z5⟩
        · exact Or.inr ⟨z1, z2⟩
      · have b' := aq_X_0 w2
        rw [w1, m_259x hE jv b'.1 b'.2 (by omega)]
        exact ⟨S1, T1, _, fS, fT, rfl, jv, Or.inr ⟨rfl, w2⟩⟩
    · refine ⟨S, T, v, aq_FS_r S, aq_FT_r T, ?_, hv, Or.inl ⟨?_, h, by omega, by omega, hC⟩⟩
      · rw [mm_e259_5, rd_isW hE h.1 (by omega) (by omega), mm_cI_ok, mm_br_b1, if_neg sg, aq_bz hv]
      · rw [mm_e64_74]
        simp (disch := omega) only [mm_ptQ]
        rw [aq_skip hE (by omega) (by omega) h1 aq_tx19.2.2 (aq_t32 55 (by omega) (by omega)), if_neg sg, mm_cI_ok, mm_br_t rfl, mm_bz1]
/-- a test whole, given its facts -/
theorem aq_test1 {d d' : Nat} {S T : mm_S} (hE : pp_OE E B) (hp : 0 ≤ p ∧ p ≤ 6) (hd : 5 ≤ d) (hd' : 7 ≤ d') (hA : T.A = T0.A) (h : aq_G S T k s p) (HP : ∀ S1 T1 : mm_S, T1.A = T0.A → aq_G S1 T1 k s p → aq_t E B c c' k s p W (3 * p + 2) S1 T1 (mm_ev E (d - 1) 65 [.ref (mm_ad B 97), .int (mm_i p)] (mm_hp B S1 c)) (mm_ev E (d' - 2) 257 [.ref (mm_ad B 101)] (mm_hp B T1 c'))) : aq_t E B c c' k s p W (3 * p) S T (mm_ev E d 64 [.ref (mm_ad B 97), .int (mm_i p)] (mm_hp B S c)) (mm_ev E d' 259 [.ref (mm_ad B 101)] (mm_hp B T c')) := by
  obtain ⟨e, rfl⟩ : ∃ e, d = e + 1 := ⟨d - 1, by omega⟩
  obtain ⟨f, rfl⟩ : ∃ f, d' = f + 1 := ⟨d' - 1, by omega⟩
  rw [show e + 1 - 1 = e from rfl, show f + 1 - 2 = f - 1 by omega] at HP
  obtain ⟨F, hF, hc⟩ := mm_w64 E e B S c (mm_i p)
  obtain ⟨G, hG, hm⟩ := mm_w259 E f B T c'
  have kb := h.1.1.2.2.2
  have k3 := h.1.1.2.2.1
  have n2 := h.2.2.2.2.2.1
  have h97 := h.2.2.2.2.2.2.1
  have h98 := h.2.2.2.2.2.2.2
  rw [hc, hm, mm_e64_0, mm_e259_0]
  obtain ⟨S1, T1, v, f1, f2, f3, fv, f4⟩ := aq_bothw (E := E) (e := e) (f := f) (B := B) (c := c) (c' := c') (k := k) (s := s) (p := p) (W := W) (T0 := T0) (t1 := 3 * p) (i := 0) (o3 := none) hE hp (by omega) (by omega) (by omega) HP S T (F + 99) hA h (by omega) (by omega) (by omega)
  rw [f3, mm_cI_ok]
  rcases f4 with ⟨n', kk, w1, w2, w3, w4, w5, w6, w7, w8⟩ | ⟨w1, w2⟩
  · obtain ⟨n', rfl⟩ : ∃ q, n' = q + 1 := ⟨n' - 1, by omega⟩
    have y8 := w5.2.2.2.2.2.1
    have i12 : S1.I 1 2 = S.I 1 2 := f1.1 1 2 (by omega) (by omega)
    have cc : mm_r64_2 E (mm_ev E e) (F + 99) (mm_ad B 97) (mm_i p) (mm_i 0) none (mm_hp B S c) = mm_r64_74 E (mm_ev E e) n' (mm_ad B 97) (mm_i p) (mm_i 0) (mm_i kk) (mm_hp B S1 c) := by
      rw [w3, mm_e64_21, mm_br_le (by omega) (by omega) (by omega) (by omega), if_neg (by omega)]
      simp (disch := omega) only [mm_ptQ]
      rw [aq_skip hE (by omega) (by omega) w5.1.1 aq_tx19.2.1 (aq_t32 54 (by omega) (by omega)), if_neg (by rw [w4]; decide), mm_cI_ok, mm_br_t rfl, mm_br_le (by omega) (by omega) (by omega) (by omega), if_pos (by omega)]
    obtain ⟨S', T', v', u1, u2, u3, uv, u4⟩ := aq_testl (E := E) (e := e) (f := f) (B := B) (c := c) (c' := c') (k := k) (s := s) (p := p) (W := W) (T0 := T0) (t1 := 3 * p) hE hp (by omega) (by omega) (by omega) HP 200 S1 T1 v (mm_i kk) none (S.I 97 4) 0 n' (G + 99) (by rw [f2.2.1]; exact hA) w5 fv (by omega) (by omega) (by omega) (by omega) (by omega) w8
    rw [cc, u3]
    refine ⟨S', T', v', aq_FS_t f1 u1, aq_FT_t f2 u2, rfl, uv, ?_⟩
    rcases u4 with ⟨z1, z2, z3, z4, z5⟩ | ⟨z1, z2⟩
    · exact Or.inl ⟨z1, z2, by omega, by omega, z5⟩
    · exact Or.inr ⟨z1, z2⟩
  · have b' := aq_X_0 w2
    rw [w1, m_259x hE fv b'.1 b'.2 (by omega)]
    exact ⟨S1, T1, _, f1, f2, rfl, fv, Or.inr ⟨rfl, w2⟩⟩
/-- facts and tests, by the brackets still free -/
theorem aq_FTs (hE : pp_OE E B) (hk : k = 0 ∨ k = 1) (hM : k = 1 → aq_M E B s W T0) : ∀ (j : Nat) (p : Int), p + j = 6 → 0 ≤ p → (∀ (d d' : Nat) (S T : mm_S), 12 + 2 * j ≤ d → 33 + 3 * j ≤ d' → T.A = T0.A → aq_G S T k s p → aq_t E B c c' k s p W (3 * p + 2) S T (mm_ev E d 65 [.ref (mm_ad B 97), .int (mm_i p)] (mm_hp B S c)) (mm_ev E d' 257 [.ref (mm_ad B 101)] (mm_hp B T c'))) ∧ (∀ (d d' : Nat) (S T : mm_S), 13 + 2 * j ≤ d → 35 + 3 * j ≤ d' → T.A = T0.A → aq_G S T k s p → aq_t E B c c' k s p W (3 * p) S T (mm_ev E d 64 [.ref (mm_ad B 97), .int (mm_i p)] (mm_hp B S c)) (mm_ev E d' 259 [.ref (mm_ad B 101)] (mm_hp B T c'))) := by
  have step : ∀ (j : Nat) (p : Int), p + j = 6 → 0 ≤ p → (∀ (d d' : Nat) (S T : mm_S), 12 + 2 * j ≤ d → 33 + 3 * j ≤ d' → T.A = T0.A → aq_G S T k s p → aq_t E B c c' k s p W (3 * p + 2) S T (mm_ev E d 65 [.ref (mm_ad B 97), .int (mm_i p)] (mm_hp B S c)) (mm_ev E d' 257 [.ref (mm_ad B 101)] (mm_hp B T c'))) → (∀ (d d' : Nat) (S T : mm_S), 13 + 2 * j ≤ d → 35 + 3 * j ≤ d' → T.A = T0.A → aq_G S T k s p → aq_t E B c c' k s p W (3 * p) S T (mm_ev E d 64 [.ref (mm_ad B 97), .int (mm_i p)] (mm_hp B S c)) (mm_ev E d' 259 [.ref (mm_ad B 101)] (mm_hp B T c'))) := fun j p h1 h2 H d d' S T a1 a2 a3 a4 => aq_test1 hE ⟨h2, by omega⟩ (by omega) (by omega) a3 a4 (fun S1 T1 b1 b2 => H (d - 1) (d' - 2) S1 T1 (by omega) (by omega) b1 b2)
  intro j
  induction j with
  | zero =>
    intro p h1 h2
    have H : ∀ (d d' : Nat) (S T : mm_S), 12 + 2 * 0 ≤ d → 33 + 3 * 0 ≤ d' → T.A = T0.A → aq_G S T k s p → aq_t E B c c' k s p W (3 * p + 2) S T (mm_ev E d 65 [.ref (mm_ad B 97), .int (mm_i p)] (mm_hp B S c)) (mm_ev E d' 257 [.ref (mm_ad B 101)] (mm_hp B T c')) := fun d d' S T a1 a2 a3 a4 => aq_fact1 hE ⟨h2, by omega⟩ (by omega) (by omega) a3 a4 (fun S1 T1 b1 b2 => aq_sum hE hk hM 0 p (d - 1) (d' - 1) S1 T1 h1 h2 (by omega) (by omega) b1 b2) (fun z => by omega) (fun z => by omega)
    exact ⟨H, step 0 p h1 h2 H⟩
  | succ j ih =>
    intro p h1 h2
    have I := ih (p + 1) (by omega) (by omega)
    have H : ∀ (d d' : Nat) (S T : mm_S), 12 + 2 * (j + 1) ≤ d → 33 + 3 * (j + 1) ≤ d' → T.A = T0.A → aq_G S T k s p → aq_t E B c c' k s p W (3 * p + 2) S T (mm_ev E d 65 [.ref (mm_ad B 97), .int (mm_i p)] (mm_hp B S c)) (mm_ev E d' 257 [.ref (mm_ad B 101)] (mm_hp B T c')) := fun d d' S T a1 a2 a3 a4 => aq_fact1 hE ⟨h2, by omega⟩ (by omega) (by omega) a3 a4 (fun S1 T1 b1 b2 => aq_sum hE hk hM (j + 1) p (d - 1) (d' - 1) S1 T1 h1 h2 (by omega) (by omega) b1 b2) (fun z S1 T1 b1 b2 => I.1 (d - 1) (d' - 1) S1 T1 (by omega) (by omega) b1 b2) (fun z S1 T1 b1 b2 => I.2 (d - 1) (d' - 1) S1 T1 (by omega) (by omega) b1 b2)
    exact ⟨H, step (j + 1) p h1 h2 H⟩
end
