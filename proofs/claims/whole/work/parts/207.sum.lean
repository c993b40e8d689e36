/-! ASK: a sum -/
section
variable {E : mm_E} {e f f1 B : Nat} {c c' : mm_N} {k s p : Int} {W : Int → Int} {T0 : mm_S}
/-- a product: the class from its first part on (mm_r66_4), the model's readProduct -/
theorem aq_product {t1 i : Int} {x2 : Int32} {o4 : Option Value} (hp : 0 ≤ p ∧ p ≤ 6) (he : 4 ≤ e) (hf : 5 ≤ f) (ht : t1 + 1 ≤ 32 + 2 * p) (HP : ∀ S1 T1 : mm_S, T1.A = T0.A → aq_G S1 T1 k s p → aq_r E B c c' k s p W (32 + 2 * p) S1 T1 (mm_ev E e 67 [.ref (mm_ad B 97), .int (mm_i p)] (mm_hp B S1 c)) (mm_ev E (f - 1) 253 [.ref (mm_ad B 101)] (mm_hp B T1 c'))) (S T : mm_S) (n : Nat) (hA : T.A = T0.A) (h : aq_G S T k s p) (i0 : 0 ≤ i) (i1 : 2 * i ≤ S.I 1 3) (hn : 300 < n) : ∃ (S' T' : mm_S) (v : Int32), aq_FS S S' ∧ aq_FT T T' ∧ mm_ev E f 255 [.ref (mm_ad B 101)] (mm_hp B T c') = some (.inl (some (.int v)), mm_hp B T' c') ∧ ((∃ (n' : Nat) (kk : Int), n ≤ n' + 250 ∧ (0 ≤ kk ∧ kk < 200) ∧ mm_r66_4 E (mm_ev E e) n (mm_ad B 97) (mm_i p) x2 (mm_i i) o4 (mm_hp B S c) = mm_r66_24 E (mm_ev E e) n' (mm_ad B 97) (mm_i p) x2 (mm_i i) (mm_i kk) (mm_hp B S' c) ∧ rd_sg S' 42 = false ∧ aq_G S' T' k s p ∧ S'.I 97 4 - S.I 97 4 ≤ S'.I 1 3 - S.I 1 3 ∧ S.I 1 3 < S'.I 1 3 ∧ (k = 1 → aq_C E B s W (S'.A 98) (S.I 97 4) (S'.I 97 4) v t1)) ∨ (mm_r66_4 E (mm_ev E e) n (mm_ad B 97) (mm_i p) x2 (mm_i i) o4 (mm_hp B S c) = mm_oI 0 (mm_hp B S' c) ∧ aq_X S' T')) := by
  obtain ⟨g, rfl⟩ : ∃ g, f = g + 1 := ⟨f - 1, by omega⟩
  rw [show g + 1 - 1 = g from rfl] at HP
  obtain ⟨n, rfl⟩ : ∃ q, n = q + 1 := ⟨n - 1, by omega⟩
  obtain ⟨G, hG, hm⟩ := mm_w255 E g B T c'
  have k5 := h.1.1.2.2.2
  have n2 := h.2.2.2.2.2.1
  have h97 := h.2.2.2.2.2.2.1
  obtain ⟨S1, T1, v, f1, f2, f3, f4⟩ := HP S T hA h
  rw [hm, mm_e255_0, f3, mm_cI_ok, mm_e66_4, mm_br_le (by omega) (by omega) (by omega) (by omega), if_neg (by omega)]
  rcases f4 with ⟨z1, z2, z3, z4, z5⟩ | ⟨z1, z2⟩
  · have i12 : S1.I 1 2 = S.I 1 2 := f1.1 1 2 (by omega) (by omega)
    have y3 := z2.1.1.2.2.1
    obtain ⟨S', T', v', u1, u2, u3, u4⟩ := aq_prod (E := E) (e := e) (f := g) (B := B) (c := c) (c' := c') (k := k) (s := s) (p := p) (W := W) (T0 := T0) (t1 := t1) (x2 := x2) (x3 := mm_i i) hp he (by omega) ht HP 200 S1 T1 v (S.I 97 4) 0 n (G + 99) (by rw [f2.2.1]; exact hA) z2 (by omega) (by omega) (by omega) (by omega) (by omega) (fun hk => aq_C_t (z5 hk) (by omega))
    rw [z1, mm_cI_ok, mm_br_eq (by omega) (by omega) (by omega) (by omega), if_neg (by omega), u3]
    refine ⟨S', T', v', aq_FS_t f1 u1, aq_FT_t f2 u2, rfl, ?_⟩
    rcases u4 with ⟨n', kk, w1, w2, w3, w4, w5, w6, w7, w8⟩ | ⟨w1, w2⟩
    · exact Or.inl ⟨n', kk, by omega, w2, w3, w4, w5, by omega, by omega, w8⟩
    · exact Or.inr ⟨w1, w2⟩
  · have b := aq_X_0 z2
    rw [z1, mm_cI_ok, mm_br_t rfl, mm_bz0, m_255x b.1 b.2 (by omega)]
    exact ⟨S1, T1, v, f1, f2, rfl, Or.inr ⟨rfl, z2⟩⟩
end
