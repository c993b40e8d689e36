/-! FRONTIER, TAKE -/
theorem iv_fq_r {f : Int → Int} {y : Int} : ∀ (j : Nat) (m b p v : Int), 0 ≤ m → 0 ≤ p → p + j = 21 → m ≤ p → iv_fq f y j m b p = some v → 0 ≤ v ∧ v ≤ 21
  | 0, m, b, p, v, hm, hp, hj, hmp, h => by
    rw [iv_fq] at h
    by_cases e : y = -1
    · rw [if_pos e] at h
      have h := Option.some.inj h
      omega
    · rw [if_neg e] at h; cases h
  | j + 1, m, b, p, v, hm, hp, hj, hmp, h => by
    rw [iv_fq] at h
    by_cases z : iv_pr f p = -1
    · rw [if_pos z] at h
      exact iv_fq_r j m b (p + 1) v hm (by omega) (by omega) (by omega) h
    · rw [if_neg z] at h
      by_cases z2 : b ≤ iv_pr f p
      · rw [if_pos z2] at h
        exact iv_fq_r j m b (p + 1) v hm (by omega) (by omega) (by omega) h
      · rw [if_neg z2] at h
        by_cases e : m = y
        · rw [if_pos e] at h
          have h := Option.some.inj h
          omega
        · rw [if_neg e] at h
          exact iv_fq_r j (m + 1) _ (p + 1) v (by omega) (by omega) (by omega) (by omega) h
section
variable {E : mm_E} {d B : Nat} {S : mm_S} {k : Nat}
theorem iv_frM (h : iv S k) (hd : 22 ≤ d) {y : Int} (hy : iv_n y) (c : mm_N) : ∃ T, iv T k ∧ T.L = S.L ∧ T.I 101 0 = 0 ∧ mm_ev E d 213 [.ref (mm_ad B 101), .int (mm_i y)] (mm_hp B S c) = if -1 ≤ y then (match iv_fq (S.A 102) y 21 0 1000000000 0 with | some v => mm_oI v (mm_hp B T c) | none => mm_oI 0 (mm_hp B (T.sI 101 0 1) c)) else mm_oI 0 (mm_hp B (S.sI 101 0 1) c) := by
  obtain ⟨e, rfl⟩ : ∃ e, d = e + 1 := ⟨d - 1, by omega⟩
  obtain ⟨F, hF, he⟩ := mm_w213 E e B S c (mm_i y)
  obtain ⟨e, rfl⟩ : ∃ e', e = e' + 1 := ⟨e - 1, by omega⟩
  obtain ⟨G, hG, ge⟩ := mm_w212 E e B (S.sI 101 0 0) c (mm_i y)
  obtain ⟨T, t1, t2, t3, t4, t5⟩ := l_fqM (E := E) (d := e) (B := B) (k := k) hy (by omega) c 21 (G + 99) 0 0 1000000000 none (S.sI 101 0 0) (iv_sc h 0) rfl (by omega) (by omega) (by omega) (by omega)
  have t1 : mm_r212_8 E (mm_ev E e) (G + 99) (mm_ad B 101) (mm_i y) (mm_i 0) (mm_i 1000000000) (mm_i 0) none (mm_hp B (S.sI 101 0 0) c) = mm_oI ((iv_fq (S.A 102) y 21 0 1000000000 0).getD (-2)) (mm_hp B T c) := t1
  rw [mm_e212_0, t1] at ge
  have y1 := hy.1
  have y2 := hy.2
  refine ⟨T, t2, t4, by rw [t5]; exact mm_gs.1 _ _ _ _, ?_⟩
  rw [he, mm_e213_0]
  simp (disch := omega) only [mm_ptM, mm_br_le]
  by_cases q : -1 ≤ y
  · rw [if_pos q, if_pos q, ge, mm_cI_ok]
    cases hv : iv_fq (S.A 102) y 21 0 1000000000 0 with
    | some v =>
      have r := iv_fq_r 21 0 _ 0 v (by omega) (by omega) (by omega) (by omega) hv
      show mm_br (mm_i v = mm_i (-2)) _ _ = _
      rw [mm_br_eq (by omega) (by omega) (by omega) (by omega), if_neg (by omega)]
      rfl
    | none =>
      show mm_br (mm_i (-2) = mm_i (-2)) _ _ = _
      rw [mm_br_t rfl, c_fail (by omega), mm_cI_ok]
  · rw [if_neg q, if_neg q]
    simp only [mm_br_t]
    rw [iv_MF (by omega)]
theorem i_frontier (h : iv S k) (hk : k ≤ 1000) (hd : 22 ≤ d) {y : Int} (hy : iv_n y) : iv_ok E B d S k 129 [.ref (mm_ad B 0), .int (mm_i y)] 213 [.ref (mm_ad B 101), .int (mm_i y)] iv_c1 := by
  have y1 := hy.1
  have y2 := hy.2
  by_cases q : -1 ≤ y ∧ y ≤ 20
  · intro c
    obtain ⟨e, rfl⟩ : ∃ e, d = e + 1 := ⟨d - 1, by omega⟩
    obtain ⟨F, hF, he⟩ := mm_w129 E e B S c (mm_i y)
    obtain ⟨T, t1, t2, t3⟩ := l_fqC (E := E) (d := e) (B := B) (k := k) q hk (by omega) c 21 (F + 99) 0 0 1000000000 (-1) none S h rfl (by omega) (by omega) (by omega) (Or.inl ⟨rfl, rfl⟩)
    rw [mm_e129_0] at he
    simp (disch := omega) only [mm_br_lt, mm_br_le] at he
    rw [if_neg (by omega), if_pos q.2, t1] at he
    refine ⟨T, ?_⟩
    cases hv : iv_fq (S.A 102) y 21 0 1000000000 0 with
    | some v =>
      rw [hv] at he
      refine Or.inl ⟨v, he, fun o => ?_⟩
      obtain ⟨U, u1, u2, u3, u4⟩ := iv_frM (E := E) (d := e + 1) (B := B) (S := T.sL 123 o) (iv_sL t2 o) hd hy c
      have z : (T.sL 123 o).A 102 = S.A 102 := t3
      rw [if_pos q.1, z, hv] at u4
      exact ⟨U, u4, u3, by rw [u2]; simp only [mm_gs], iv_up u1 (by omega)⟩
    | none =>
      rw [hv] at he
      refine Or.inr ⟨0, he, fun c' => ?_⟩
      obtain ⟨U, u1, u2, u3, u4⟩ := iv_frM (E := E) (d := e + 1) (B := B) (S := T) t2 hd hy c'
      rw [if_pos q.1, t3, hv] at u4
      exact ⟨U.sI 101 0 1, 0, u4, mm_gs.1 _ _ _ _, by decide, iv_up (iv_sc u1 1) (by omega)⟩
  · intro c
    refine ⟨S, Or.inr ⟨0, mm_v129 (by omega) (fun F e hF he => ?_), fun c' => ?_⟩⟩
    · rw [mm_e129_0]
      simp (disch := omega) only [mm_br_lt, mm_br_le]
      by_cases z : y < -1
      · rw [if_pos z]; rfl
      · rw [if_neg z, if_neg (by omega)]; rfl
    · obtain ⟨U, u1, u2, u3, u4⟩ := iv_frM (E := E) (d := d) (B := B) (S := S) h hd hy c'
      by_cases z : -1 ≤ y
      · rw [if_pos z, iv_fq_big (by omega) 21 0 _ 0 (by omega) (by omega)] at u4
        exact ⟨U.sI 101 0 1, 0, u4, mm_gs.1 _ _ _ _, by decide, iv_up (iv_sc u1 1) (by omega)⟩
      · rw [if_neg z] at u4
        exact ⟨S.sI 101 0 1, 0, u4, mm_gs.1 _ _ _ _, by decide, iv_up (iv_sc h 1) (by omega)⟩
-- take: the end of both
noncomputable def iv_tv (S : mm_S) : Int := if pp_first (pp_rg S 3) (S.I 3 10).toNat 0 = -1 then pp_sm (fun s => pp_bp S 3 s 5) (S.I 3 10).toNat else -2
theorem iv_tkF {T U : mm_S} (h : iv S k) (hd : 20 ≤ d) (x1 : Int32) (tI : ∀ x k, iv_rI x k → T.I x k = S.I x k) (tA : ∀ x, iv_rA x → x ≠ 8 → T.A x = S.A x) (uI : ∀ x k, iv_rI x k → U.I x k = T.I x k) (uA : ∀ x, iv_rA x → x ≠ 105 → U.A x = T.A x) (b1 : ∀ s : Int, 0 ≤ s → s < S.I 3 10 → 0 ≤ T.A 8 s ∧ T.A 8 s ≤ 119) (b2 : ∀ s : Int, S.I 3 10 ≤ s → T.A 8 s = S.A 8 s) (b3 : ∀ s : Int, 0 ≤ s → s < S.I 3 10 → U.A 105 s = T.A 8 s) (b4 : ∀ s : Int, S.I 3 10 ≤ s → U.A 105 s = S.A 105 s) : iv U k ∧ ∃ v, (∀ n c, mm_r114_94 E (mm_ev E d) (n + 1) (mm_ad B 0) x1 (mm_hp B T c) = mm_oI v (mm_hp B T c)) ∧ (∀ n c o2, mm_r190_87 E (mm_ev E d) (n + 1) (mm_ad B 101) x1 o2 (mm_hp B U c) = mm_oI v (mm_hp B U c)) := by
  have nn := iv_nn h
  have u8 : U.A 8 = T.A 8 := uA 8 (by unfold iv_rA; omega) (by omega)
  have u9 : U.A 9 = S.A 9 := by rw [uA 9 (by unfold iv_rA; omega) (by omega), tA 9 (by unfold iv_rA; omega) (by omega)]
  have u6 : U.A 106 = S.A 106 := by rw [uA 106 (by unfold iv_rA; omega) (by omega), tA 106 (by unfold iv_rA; omega) (by omega)]
  have iU : iv U k := by
    refine iv_td h (fun x k hx => by rw [uI x k hx, tI x k hx]) (fun x hx x8 x9 x5 x6 => by rw [uA x hx x5, tA x hx x8]) ?_
    rw [u8, u9, u6]
    refine ⟨fun s s0 s1 => ?_, h.2.2.1.2⟩
    have g := h.2.2.1.1 s s0 s1
    by_cases q : s < S.I 3 10
    · have := b1 s s0 q
      exact ⟨b3 s s0 q, this.1, this.2, fun z => by omega⟩
    · rw [b2 s (by omega), b4 s (by omega)]
      exact g
  have i3a := uI 3 10 (by unfold iv_rI; omega)
  have i3b := uI 3 11 (by unfold iv_rI; omega)
  have a4 := uA 4 (by unfold iv_rA; omega) (by omega)
  have a6 := uA 6 (by unfold iv_rA; omega) (by omega)
  have a7 := uA 7 (by unfold iv_rA; omega) (by omega)
  have a10 := uA 10 (by unfold iv_rA; omega) (by omega)
  have a11 := uA 11 (by unfold iv_rA; omega) (by omega)
  have a12 := uA 12 (by unfold iv_rA; omega) (by omega)
  have a13 := uA 13 (by unfold iv_rA; omega) (by omega)
  have tT : pp_NT T 3 := by
    have z := iU.2.1.2.2
    unfold pp_NT pp_NK pp_GK at z ⊢
    rw [i3a, i3b, a4, a6, a7, a10, a11, a12, a13] at z
    exact z
  have tM : pp_TM T 3 := fun s s0 s1 => by
    have z := iv_TM iU s s0 s1
    have e : U.A (3 + 5) = T.A (3 + 5) := u8
    rw [e] at z
    exact z
  have ve : iv_tv U = iv_tv T := by
    unfold iv_tv
    have w : pp_wt U 3 = pp_wt T 3 := by funext s; unfold pp_wt; rw [i3a, a4, a6, u8]
    have n : pp_nd U 3 = pp_nd T 3 := by funext s; unfold pp_nd; rw [w, a4, u8]
    have hh : pp_hd U 3 = pp_hd T 3 := by funext s; unfold pp_hd; rw [n, i3b, a12]
    have g : pp_rg U 3 = pp_rg T 3 := by funext s; unfold pp_rg; rw [n, a4, u8]
    have b : (fun s => pp_bp U 3 s 5) = fun s => pp_bp T 3 s 5 := by funext s; unfold pp_bp; rw [w, n, hh, i3b, a4, u8, a11, a12]
    rw [g, b, i3a]
  have fr : ∀ V : mm_S, iv V k ∨ V = T → -1 ≤ pp_first (pp_rg V 3) (V.I 3 10).toNat 0 ∧ pp_first (pp_rg V 3) (V.I 3 10).toNat 0 < 12 := fun V hV => by
    have z := pp_first_r (pp_rg V 3) (V.I 3 10).toNat 0 (by omega)
    have n : 0 ≤ V.I 3 10 ∧ V.I 3 10 ≤ 12 := by
      rcases hV with g | g
      · exact iv_nn g
      · rw [g]; exact tT.1.1
    rcases z with z | z <;> omega
  refine ⟨iU, iv_tv T, fun n c => ?_, fun n c o2 => ?_⟩
  · have f := fr T (Or.inr rfl)
    rw [mm_e114_94]
    simp (disch := omega) only [mm_ptP]
    rw [c_firstNot (by omega) (by omega) tT.1 tM, mm_cI_ok, mm_br_eq (by omega) (by omega) (by omega) (by omega)]
    simp (disch := omega) only [mm_ptP]
    rw [c_priceAt (by omega) (by omega) tT tM, mm_cI_ok]
    unfold iv_tv
    by_cases q : pp_first (pp_rg T 3) (T.I 3 10).toNat 0 = -1
    · rw [if_pos q, if_pos q]
    · rw [if_neg q, if_neg q]
  · have f := fr U (Or.inl iU)
    rw [← ve, mm_e190_87, m_firstWrong (a := 3) (by omega) iU.2.1.2.2.1 (iv_RL iU) (iv_TM iU) (iv_tE iU), mm_cI_ok, mm_br_eq (by omega) (by omega) (by omega) (by omega), m_priceNow (a := 3) (by omega) iU.2.1.2.2 (iv_RL iU) (iv_TM iU) (iv_tE iU), mm_cI_ok]
    unfold iv_tv
    by_cases q : pp_first (pp_rg U 3) (U.I 3 10).toNat 0 = -1
    · rw [if_pos q, if_pos q, pp_price_eq (iv_nn iU).1 q]
    · rw [if_neg q, if_neg q]
end
