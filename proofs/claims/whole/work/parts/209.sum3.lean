/-! ASK: a sum whole -/
theorem aq_M_c {E : mm_E} {B : Nat} {s : Int} {W : Int → Int} {T0 T : mm_S} (h : aq_M E B s W T0) (hA : T.A = T0.A) : aq_M E B s W T := fun S U d c h1 h2 h3 h4 => h S U d c h1 h2 (h3.trans hA) h4
section
variable {E : mm_E} {B : Nat} {c c' : mm_N} {k s : Int} {W : Int → Int} {T0 : mm_S}
theorem aq_sum1 {p : Int} {d d' : Nat} {S T : mm_S} (hE : pp_OE E B) (hk : k = 0 ∨ k = 1) (hM : k = 1 → aq_M E B s W T0) (hp : 0 ≤ p ∧ p ≤ 6) (hd : 11 ≤ d) (hd' : 32 ≤ d') (hA : T.A = T0.A) (h : aq_G S T k s p) (IH : p < 6 → ∀ S1 T1 : mm_S, T1.A = T0.A → aq_G S1 T1 k s (p + 1) → aq_r E B c c' k s (p + 1) W (30 + 2 * (p + 1)) S1 T1 (mm_ev E (d - 2) 66 [.ref (mm_ad B 97), .int (mm_i (p + 1))] (mm_hp B S1 c)) (mm_ev E (d' - 3) 256 [.ref (mm_ad B 101)] (mm_hp B T1 c'))) : aq_r E B c c' k s p W (30 + 2 * p) S T (mm_ev E d 66 [.ref (mm_ad B 97), .int (mm_i p)] (mm_hp B S c)) (mm_ev E d' 256 [.ref (mm_ad B 101)] (mm_hp B T c')) := by
  obtain ⟨e, rfl⟩ : ∃ e, d = e + 1 := ⟨d - 1, by omega⟩
  obtain ⟨f, rfl⟩ : ∃ f, d' = f + 1 := ⟨d' - 1, by omega⟩
  have HP : ∀ S1 T1 : mm_S, T1.A = T0.A → aq_G S1 T1 k s p → aq_r E B c c' k s p W (32 + 2 * p) S1 T1 (mm_ev E e 67 [.ref (mm_ad B 97), .int (mm_i p)] (mm_hp B S1 c)) (mm_ev E (f - 1) 253 [.ref (mm_ad B 101)] (mm_hp B T1 c')) := fun S1 T1 a g => aq_part hE hk hp (fun z => aq_M_c (hM z) a) g (by omega) (by omega) (fun q S2 T2 a2 g2 => by
    have z := IH q S2 T2 (a2.trans a) g2
    rw [show e + 1 - 2 = e - 1 by omega, show f + 1 - 3 = f - 1 - 1 by omega, show 30 + 2 * (p + 1) = 32 + 2 * p by omega] at z
    exact z)
  obtain ⟨F, hF, hc⟩ := mm_w66 E e B S c (mm_i p)
  obtain ⟨G, hG, hm⟩ := mm_w256 E f B T c'
  have kb := h.1.1.2.2.2
  have k3 := h.1.1.2.2.1
  have n2 := h.2.2.2.2.2.1
  have h97 := h.2.2.2.2.2.2.1
  have h98 := h.2.2.2.2.2.2.2
  rw [hc, hm, mm_e66_0, mm_e256_0]
  obtain ⟨S1, T1, v, f1, f2, f3, f4⟩ := aq_product (E := E) (e := e) (f := f) (B := B) (c := c) (c' := c') (k := k) (s := s) (p := p) (W := W) (T0 := T0) (t1 := 30 + 2 * p) (i := 0) (x2 := mm_i (-1)) (o4 := none) hp (by omega) (by omega) (by omega) HP S T (F + 99) hA h (by omega) (by omega) (by omega)
  rw [f3, mm_cI_ok]
  rcases f4 with ⟨n', kk, w1, w2, w3, w4, w5, w6, w7, w8⟩ | ⟨w1, w2⟩
  · obtain ⟨n', rfl⟩ : ∃ q, n' = q + 1 := ⟨n' - 1, by omega⟩
    have y8 := w5.2.2.2.2.2.1
    have i12 : S1.I 1 2 = S.I 1 2 := f1.1 1 2 (by omega) (by omega)
    have cc : mm_r66_4 E (mm_ev E e) (F + 99) (mm_ad B 97) (mm_i p) (mm_i (-1)) (mm_i 0) none (mm_hp B S c) = mm_r66_85 E (mm_ev E e) n' (mm_ad B 97) (mm_i p) (mm_i (-1)) (mm_i 0) (mm_i kk) (mm_hp B S1 c) := by
      rw [w3, mm_e66_24, mm_br_le (by omega) (by omega) (by omega) (by omega), if_neg (by omega)]
      simp (disch := omega) only [mm_ptQ]
      rw [rd_isS w5.1.1 (by omega) (by omega), mm_cI_ok, mm_br_b1, if_neg (by rw [w4]; decide), mm_br_t trivial]
    obtain ⟨S', T', v', u1, u2, u3, u4⟩ := aq_suml (E := E) (e := e) (f := f) (B := B) (c := c) (c' := c') (k := k) (s := s) (p := p) (W := W) (T0 := T0) (t1 := 30 + 2 * p) hp (by omega) (by omega) (by omega) HP 200 S1 T1 v (mm_i (-1)) (mm_i kk) none none (S.I 97 4) 0 n' (G + 99) (by rw [f2.2.1]; exact hA) w5 (by omega) (by omega) (by omega) (by omega) (by omega) w8
    rw [cc, u3]
    refine ⟨S', T', v', aq_FS_t f1 u1, aq_FT_t f2 u2, rfl, ?_⟩
    rcases u4 with ⟨z1, z2, z3, z4, z5⟩ | ⟨z1, z2⟩
    · exact Or.inl ⟨z1, z2, by omega, by omega, z5⟩
    · exact Or.inr ⟨z1, z2⟩
  · have b' := aq_X_0 w2
    rw [w1, m_256x b'.1 b'.2 (by omega)]
    exact ⟨S1, T1, _, f1, f2, rfl, Or.inr ⟨rfl, w2⟩⟩
theorem aq_sum (hE : pp_OE E B) (hk : k = 0 ∨ k = 1) (hM : k = 1 → aq_M E B s W T0) : ∀ (j : Nat) (p : Int) (d d' : Nat) (S T : mm_S), p + j = 6 → 0 ≤ p → 11 + 2 * j ≤ d → 32 + 3 * j ≤ d' → T.A = T0.A → aq_G S T k s p → aq_r E B c c' k s p W (30 + 2 * p) S T (mm_ev E d 66 [.ref (mm_ad B 97), .int (mm_i p)] (mm_hp B S c)) (mm_ev E d' 256 [.ref (mm_ad B 101)] (mm_hp B T c')) := by
  intro j
  induction j with
  | zero => exact fun p d d' S T h1 h2 h3 h4 hA h => aq_sum1 hE hk hM ⟨h2, by omega⟩ (by omega) (by omega) hA h (fun z => by omega)
  | succ j ih => exact fun p d d' S T h1 h2 h3 h4 hA h => aq_sum1 hE hk hM ⟨h2, by omega⟩ (by omega) (by omega) hA h (fun z S1 T1 a g => ih (p + 1) (d - 2) (d' - 3) S1 T1 (by omega) (by omega) (by omega) (by omega) a g)
end
